/-! reading: a CABINET -/
theorem gv_nil (l : List Nat) (r : List Int32) : gv [] (l.map nI ++ r) = gv l r := by simp [gv]
def ms_rz (r : ms_RM) : ms_RM := ([], [], [], [], r.1.map nI ++ r.2.2.2.2.1, r.2.1.map nI ++ r.2.2.2.2.2.1, r.2.2.1.map nI ++ r.2.2.2.2.2.2.1, r.2.2.2.1.map nI ++ r.2.2.2.2.2.2.2)
def ms_gz (g : ms_RR) (ch : Nat) : ms_RR := ([], 0, ch, g.2.2.2.1, g.2.2.2.2.1, g.2.2.2.2.2.1, g.1.map nI ++ g.2.2.2.2.2.2)
def ms_rl (T : Nat → Int32) (n : Nat) : Nat → Nat → ms_RM → ms_RR → Option Nat × Nat × ms_RM × ms_RR
  | 0, i, r, g => (some i, i, r, g)
  | z + 1, i, r, g => match ms_rm T n i r.1.length with
    | (none, j) => (some j, j, r, g)
    | (some m, j) => if ms_sk T (n - j) j < n then ms_rl T n z (ms_sk T (n - j) j) (ms_st m r) (ms_sr m r.1.length g) else (none, ms_sk T (n - j) j, ms_st m r, ms_sr m r.1.length g)
def ms_rd (T : Nat → Int32) (n : Nat) (r : ms_RM) (g : ms_RR) : Option Nat × Nat × ms_RM × ms_RR :=
  match ms_rch T n (ms_sk T n 0) with
  | (false, i, ch) => (some i, i, ms_rz r, ms_gz g ch)
  | (true, i, ch) => ms_rl T n 7 (ms_sk T (n - i) i) (ms_rz r) (ms_gz g ch)
/-- the reader's rows, whatever was read -/
def rdv (r : ms_RM) (g : ms_RR) : Prop := r.1.length + r.2.2.2.2.1.length = 6 ∧ r.2.1.length + r.2.2.2.2.2.1.length = 6 ∧ r.2.2.1.length + r.2.2.2.2.2.2.1.length = 6 ∧ r.2.2.2.1.length + r.2.2.2.2.2.2.2.length = 6 ∧ g.1.length + g.2.2.2.2.2.2.length = 6
theorem rdw_z {r : ms_RM} {g : ms_RR} (ch : Nat) (h : rdv r g) : rdw (ms_rz r) (ms_gz g ch) := by
  obtain ⟨h1, h2, h3, h4, h5⟩ := h
  refine ⟨rfl, rfl, rfl, rfl, fun i hi => absurd hi (by simp [ms_rz]), fun i hi => absurd hi (by simp [ms_rz]), ?_, ?_, ?_, ?_, ?_, ?_⟩ <;> simp [ms_rz, ms_gz] <;> omega
theorem rdw_v {r : ms_RM} {g : ms_RR} (h : rdw r g) : rdv r g := by
  obtain ⟨h1, h2, h3, h4, h5, h6, h7, h8, h9, h10, h11, h12⟩ := h
  exact ⟨by omega, by omega, by omega, by omega, by omega⟩
theorem ms_rl_wf {T : Nat → Int32} {n : Nat} : ∀ {z i : Nat} {r : ms_RM} {g : ms_RR}, i ≤ n → rdw r g → rdw (ms_rl T n z i r g).2.2.1 (ms_rl T n z i r g).2.2.2 ∧ (ms_rl T n z i r g).2.1 ≤ n := by
  intro z
  induction z with
  | zero => intro i r g h w; exact ⟨w, h⟩
  | succ z ih =>
    intro i r g h w
    unfold ms_rl
    have hl := ms_rm_le (T := T) (cnt := r.1.length) h
    split
    · next j hj => rw [hj] at hl; exact ⟨w, hl.1⟩
    · next m j hj =>
      rw [hj] at hl
      have hm := ms_rm_lt hj
      have w2 := ms_step_wf w ⟨hm.1, hm.2.2.2.2.1⟩ hm.2.2.2.2.2.1
      have s1 := ms_sk_le (T := T) (z := n - j) (i := j)
      have hl1 := hl.1
      split
      · exact ih (by omega) w2
      · exact ⟨w2, by dsimp only at hl1 ⊢; omega⟩
section EX
variable {xs : List Value} {rw : List Int32 × List (List Int32)} {tx : List Int32 × List (List Int32)} {rm : List Nat × List Nat × List Nat × List Nat × List Int32 × List Int32 × List Int32 × List Int32} {rr : List Nat × Nat × Nat × Nat × Nat × Nat × List Int32} {nx : Nat} {mn : List Nat × List Nat × List Nat × List Nat × List Int32 × List Int32 × List Int32 × List Int32} {ru : List Nat × Nat × Nat × Nat × Nat × Nat × List Int32} {nw : List Nat × Nat × Nat × Nat × Nat × Nat × List Int32} {ra : List Nat × Nat × Nat × Nat × Nat × Nat × List Int32} {dd : List Nat × List Int32} {k0 : Bool × List Nat × List Int32} {k1 : Bool × List Nat × List Int32} {k2 : Bool × List Nat × List Int32} {fc : List Int32} {lf : Int32} {td : Int32} {tu : Int64} {tl : Int64} {τ : ax_H}
theorem lay_rz {ek ep ec eo : List Nat} {e1 e2 e3 e4 : List Int32} : ax_set (lay xs rw tx (ek, ep, ec, eo, e1, e2, e3, e4) rr nx mn ru nw ra dd k0 k1 k2 fc lf td tu tl τ) 20 (1, [.ref 21, .ref 22, .ref 23, .ref 24, .int (nI 0)]) = (lay xs rw tx (ms_rz (ek, ep, ec, eo, e1, e2, e3, e4)) rr nx mn ru nw ra dd k0 k1 k2 fc lf td tu tl τ) := by
  unfold ms_rz lay
  simp only [gv_nil]
  rfl
theorem lay_gz {gp : List Nat} {gt gb gs' gi gc : Nat} {gr' : List Int32} : (lay xs rw tx rm (gp, 0, 0, gt, gb, gs', gr') nx mn ru nw ra dd k0 k1 k2 fc lf td tu tl τ) = (lay xs rw tx rm (ms_gz (gp, gi, gc, gt, gb, gs', gr') 0) nx mn ru nw ra dd k0 k1 k2 fc lf td tu tl τ) := by
  unfold ms_gz lay
  simp only [gv_nil]
theorem c_E_read {s n : Nat} {A : List Int32} (hs : ∀ nx rm rr, ax_get (lay xs rw tx rm rr nx mn ru nw ra dd k0 k1 k2 fc lf td tu tl τ) s = some (21, iv A)) (hn : n ≤ A.length) (hA : A.length ≤ 100) (hw : rdv rm rr) :
    ax_ev mi_E_read [.ref 19, .ref s, .int (nI n)] (lay xs rw tx rm rr nx mn ru nw ra dd k0 k1 k2 fc lf td tu tl τ) (some (.int (oN (ms_rd (ig A) n rm rr).1))) (lay xs rw tx (ms_rd (ig A) n rm rr).2.2.1 (ms_rd (ig A) n rm rr).2.2.2 (ms_rd (ig A) n rm rr).2.1 mn ru nw ra dd k0 k1 k2 fc lf td tu tl τ) := by
  refine ax_beg 1 rfl rfl ?_
  simp only [ax_ent, List.replicate, List.cons_append, List.nil_append, List.append_nil]
  generalize hF : ms_rd (ig A) n rm rr = F
  obtain ⟨gp, gi, gc, gt, gb, gs', gr'⟩ := rr
  obtain ⟨ek, ep, ec, eo, e1, e2, e3, e4⟩ := rm
  have loop : ∀ (z k i : Nat) (r : ms_RM) (g : ms_RR), k + z = 7 → i ≤ n → rdw r g → F = ms_rl (ig A) n z i r g → ax_go mi_E_read (fun v' H'' => v' = some (.int (oN F.1)) ∧ H'' = (lay xs rw tx F.2.2.1 F.2.2.2 F.2.1 mn ru nw ra dd k0 k1 k2 fc lf td tu tl τ)) 57 (0, 0) [some (.ref 19), some (.ref s), some (.int (nI n)), some (.int (nI k))] [] (lay xs rw tx r g i mn ru nw ra dd k0 k1 k2 fc lf td tu tl τ) := by
    intro z
    induction z with
    | zero =>
      intro k i r g h1 h2 h3 h4
      unfold ms_rl at h4
      refine kk_E_read_57 _ _ _ _ _ ?_
      simp (disch := omega) only [bk_E_read_57, e_cons, e_il, e_ll, e_al, e_lc0, e_lcs, e_ei, e_el, e_er, e_const, e_istore, e_lstore, e_astore, e_iinc, e_s1_0, e_s1_1, e_s1_2, e_s1_3, e_s1_4, e_s1_5, e_s1_6, e_s1_7, e_s1_8, e_s1_9, e_s1_10, e_s2_0, e_s2_1, e_s2_2, e_s2_3, e_s2_4, e_s2_5, e_s2_6, e_s2_7, e_s2_8, e_s2_9, e_s2_10, e_dln, e_dli, e_dlr, e_dll, e_b, e_bd, e_lb, e_lbd, e_lcmp, e_i2l, e_l2i, e_i2b, e_dupi, e_dupr, e_dup2, e_getf, e_at0, e_ats, e_putI, e_putL, e_putR, e_gets, e_alen, e_iald, e_iast, e_bast, e_aast, e_if1, e_if2, e_goto, e_sw, e_iret, e_zret, e_lret, e_vret, e_obji, List.set_cons_zero, List.set_cons_succ, List.set_nil, Option.toList, List.nil_append, List.cons_append, List.length_cons, List.length_nil, true_or, or_true, true_and, and_true, nd_fold, Nat.one_mul, ↓m_1, ↓m_2, ↓m_3, ↓m_4, ↓m_9, ↓m_1000, nm_ne, nm_ne', nm_inj, nm_lt, nm_le, nm_gt, nm_ge, nm_xor, nm_add, Nat.add_sub_cancel, not_true_eq_false, not_false_eq_true, na_inj, na_le, na_lt, na_add, na_mul, na_and, na_or, na_xor, na_shl, na_shr, na_sub, i_0, i_1, i_2, i_3, i_4, i_5, i_6, i_7, i_8, i_9, i_10, i_12, i_16, i_20, i_21, i_32, i_40, i_60, ol_19, ol_20, ax_obj_of (hs _ _ _), iv_rd, sl_19]
      refine ⟨fun _ => ?_, fun h => absurd h (by omega)⟩
      refine kk_E_read_100 _ _ _ _ _ ?_
      simp (disch := omega) only [bk_E_read_100, e_cons, e_il, e_ll, e_al, e_lc0, e_lcs, e_ei, e_el, e_er, e_const, e_istore, e_lstore, e_astore, e_iinc, e_s1_0, e_s1_1, e_s1_2, e_s1_3, e_s1_4, e_s1_5, e_s1_6, e_s1_7, e_s1_8, e_s1_9, e_s1_10, e_s2_0, e_s2_1, e_s2_2, e_s2_3, e_s2_4, e_s2_5, e_s2_6, e_s2_7, e_s2_8, e_s2_9, e_s2_10, e_dln, e_dli, e_dlr, e_dll, e_b, e_bd, e_lb, e_lbd, e_lcmp, e_i2l, e_l2i, e_i2b, e_dupi, e_dupr, e_dup2, e_getf, e_at0, e_ats, e_putI, e_putL, e_putR, e_gets, e_alen, e_iald, e_iast, e_bast, e_aast, e_if1, e_if2, e_goto, e_sw, e_iret, e_zret, e_lret, e_vret, e_obji, List.set_cons_zero, List.set_cons_succ, List.set_nil, Option.toList, List.nil_append, List.cons_append, List.length_cons, List.length_nil, true_or, or_true, true_and, and_true, nd_fold, Nat.one_mul, ↓m_1, ↓m_2, ↓m_3, ↓m_4, ↓m_9, ↓m_1000, nm_ne, nm_ne', nm_inj, nm_lt, nm_le, nm_gt, nm_ge, nm_xor, nm_add, Nat.add_sub_cancel, not_true_eq_false, not_false_eq_true, na_inj, na_le, na_lt, na_add, na_mul, na_and, na_or, na_xor, na_shl, na_shr, na_sub, i_0, i_1, i_2, i_3, i_4, i_5, i_6, i_7, i_8, i_9, i_10, i_12, i_16, i_20, i_21, i_32, i_40, i_60, ol_19, ol_20, ax_obj_of (hs _ _ _), iv_rd, sl_19]
      rw [h4]
      exact ⟨rfl, rfl⟩
    | succ z ih =>
      intro k i r g h1 h2 h3 h4
      unfold ms_rl at h4
      refine kk_E_read_57 _ _ _ _ _ ?_
      simp (disch := omega) only [bk_E_read_57, e_cons, e_il, e_ll, e_al, e_lc0, e_lcs, e_ei, e_el, e_er, e_const, e_istore, e_lstore, e_astore, e_iinc, e_s1_0, e_s1_1, e_s1_2, e_s1_3, e_s1_4, e_s1_5, e_s1_6, e_s1_7, e_s1_8, e_s1_9, e_s1_10, e_s2_0, e_s2_1, e_s2_2, e_s2_3, e_s2_4, e_s2_5, e_s2_6, e_s2_7, e_s2_8, e_s2_9, e_s2_10, e_dln, e_dli, e_dlr, e_dll, e_b, e_bd, e_lb, e_lbd, e_lcmp, e_i2l, e_l2i, e_i2b, e_dupi, e_dupr, e_dup2, e_getf, e_at0, e_ats, e_putI, e_putL, e_putR, e_gets, e_alen, e_iald, e_iast, e_bast, e_aast, e_if1, e_if2, e_goto, e_sw, e_iret, e_zret, e_lret, e_vret, e_obji, List.set_cons_zero, List.set_cons_succ, List.set_nil, Option.toList, List.nil_append, List.cons_append, List.length_cons, List.length_nil, true_or, or_true, true_and, and_true, nd_fold, Nat.one_mul, ↓m_1, ↓m_2, ↓m_3, ↓m_4, ↓m_9, ↓m_1000, nm_ne, nm_ne', nm_inj, nm_lt, nm_le, nm_gt, nm_ge, nm_xor, nm_add, Nat.add_sub_cancel, not_true_eq_false, not_false_eq_true, na_inj, na_le, na_lt, na_add, na_mul, na_and, na_or, na_xor, na_shl, na_shr, na_sub, i_0, i_1, i_2, i_3, i_4, i_5, i_6, i_7, i_8, i_9, i_10, i_12, i_16, i_20, i_21, i_32, i_40, i_60, ol_19, ol_20, ax_obj_of (hs _ _ _), iv_rd, sl_19]
      refine ⟨fun h => absurd h (by omega), fun _ => ?_⟩
      refine k_callV gl_19 (c_E_min hs hn hA h2 h3) rfl rfl rfl ?_
      simp (disch := omega) only [e_cons, e_il, e_ll, e_al, e_lc0, e_lcs, e_ei, e_el, e_er, e_const, e_istore, e_lstore, e_astore, e_iinc, e_s1_0, e_s1_1, e_s1_2, e_s1_3, e_s1_4, e_s1_5, e_s1_6, e_s1_7, e_s1_8, e_s1_9, e_s1_10, e_s2_0, e_s2_1, e_s2_2, e_s2_3, e_s2_4, e_s2_5, e_s2_6, e_s2_7, e_s2_8, e_s2_9, e_s2_10, e_dln, e_dli, e_dlr, e_dll, e_b, e_bd, e_lb, e_lbd, e_lcmp, e_i2l, e_l2i, e_i2b, e_dupi, e_dupr, e_dup2, e_getf, e_at0, e_ats, e_putI, e_putL, e_putR, e_gets, e_alen, e_iald, e_iast, e_bast, e_aast, e_if1, e_if2, e_goto, e_sw, e_iret, e_zret, e_lret, e_vret, e_obji, List.set_cons_zero, List.set_cons_succ, List.set_nil, Option.toList, List.nil_append, List.cons_append, List.length_cons, List.length_nil, true_or, or_true, true_and, and_true, nd_fold, Nat.one_mul, ↓m_1, ↓m_2, ↓m_3, ↓m_4, ↓m_9, ↓m_1000, nm_ne, nm_ne', nm_inj, nm_lt, nm_le, nm_gt, nm_ge, nm_xor, nm_add, Nat.add_sub_cancel, not_true_eq_false, not_false_eq_true, na_inj, na_le, na_lt, na_add, na_mul, na_and, na_or, na_xor, na_shl, na_shr, na_sub, i_0, i_1, i_2, i_3, i_4, i_5, i_6, i_7, i_8, i_9, i_10, i_12, i_16, i_20, i_21, i_32, i_40, i_60, ol_19, ol_20, ax_obj_of (hs _ _ _), iv_rd, sl_19]
      have hl := (ms_rm_le (T := ig A) (cnt := r.1.length) h2).1
      generalize hG : ms_rm (ig A) n i r.1.length = G at *
      obtain ⟨o, j⟩ := G
      cases o with
      | none =>
        dsimp only at h4 ⊢
        refine ⟨fun h => absurd rfl h, fun _ => ?_⟩
        simp (disch := omega) only [e_cons, e_il, e_ll, e_al, e_lc0, e_lcs, e_ei, e_el, e_er, e_const, e_istore, e_lstore, e_astore, e_iinc, e_s1_0, e_s1_1, e_s1_2, e_s1_3, e_s1_4, e_s1_5, e_s1_6, e_s1_7, e_s1_8, e_s1_9, e_s1_10, e_s2_0, e_s2_1, e_s2_2, e_s2_3, e_s2_4, e_s2_5, e_s2_6, e_s2_7, e_s2_8, e_s2_9, e_s2_10, e_dln, e_dli, e_dlr, e_dll, e_b, e_bd, e_lb, e_lbd, e_lcmp, e_i2l, e_l2i, e_i2b, e_dupi, e_dupr, e_dup2, e_getf, e_at0, e_ats, e_putI, e_putL, e_putR, e_gets, e_alen, e_iald, e_iast, e_bast, e_aast, e_if1, e_if2, e_goto, e_sw, e_iret, e_zret, e_lret, e_vret, e_obji, List.set_cons_zero, List.set_cons_succ, List.set_nil, Option.toList, List.nil_append, List.cons_append, List.length_cons, List.length_nil, true_or, or_true, true_and, and_true, nd_fold, Nat.one_mul, ↓m_1, ↓m_2, ↓m_3, ↓m_4, ↓m_9, ↓m_1000, nm_ne, nm_ne', nm_inj, nm_lt, nm_le, nm_gt, nm_ge, nm_xor, nm_add, Nat.add_sub_cancel, not_true_eq_false, not_false_eq_true, na_inj, na_le, na_lt, na_add, na_mul, na_and, na_or, na_xor, na_shl, na_shr, na_sub, i_0, i_1, i_2, i_3, i_4, i_5, i_6, i_7, i_8, i_9, i_10, i_12, i_16, i_20, i_21, i_32, i_40, i_60, ol_19, ol_20, ax_obj_of (hs _ _ _), iv_rd, sl_19]
        rw [h4]
        exact ⟨rfl, rfl⟩
      | some m =>
        have hm := ms_rm_lt hG
        have w2 := ms_step_wf h3 ⟨hm.1, hm.2.2.2.2.1⟩ hm.2.2.2.2.2.1
        have s1 := ms_sk_le (T := ig A) (z := n - j) (i := j)
        dsimp only at h4 hl ⊢
        refine ⟨fun _ => ?_, fun h => absurd (show ¬ nI 1 = nI 0 by decide) h⟩
        refine kk_E_read_77 _ _ _ _ _ ?_
        simp (disch := omega) only [bk_E_read_77, e_cons, e_il, e_ll, e_al, e_lc0, e_lcs, e_ei, e_el, e_er, e_const, e_istore, e_lstore, e_astore, e_iinc, e_s1_0, e_s1_1, e_s1_2, e_s1_3, e_s1_4, e_s1_5, e_s1_6, e_s1_7, e_s1_8, e_s1_9, e_s1_10, e_s2_0, e_s2_1, e_s2_2, e_s2_3, e_s2_4, e_s2_5, e_s2_6, e_s2_7, e_s2_8, e_s2_9, e_s2_10, e_dln, e_dli, e_dlr, e_dll, e_b, e_bd, e_lb, e_lbd, e_lcmp, e_i2l, e_l2i, e_i2b, e_dupi, e_dupr, e_dup2, e_getf, e_at0, e_ats, e_putI, e_putL, e_putR, e_gets, e_alen, e_iald, e_iast, e_bast, e_aast, e_if1, e_if2, e_goto, e_sw, e_iret, e_zret, e_lret, e_vret, e_obji, List.set_cons_zero, List.set_cons_succ, List.set_nil, Option.toList, List.nil_append, List.cons_append, List.length_cons, List.length_nil, true_or, or_true, true_and, and_true, nd_fold, Nat.one_mul, ↓m_1, ↓m_2, ↓m_3, ↓m_4, ↓m_9, ↓m_1000, nm_ne, nm_ne', nm_inj, nm_lt, nm_le, nm_gt, nm_ge, nm_xor, nm_add, Nat.add_sub_cancel, not_true_eq_false, not_false_eq_true, na_inj, na_le, na_lt, na_add, na_mul, na_and, na_or, na_xor, na_shl, na_shr, na_sub, i_0, i_1, i_2, i_3, i_4, i_5, i_6, i_7, i_8, i_9, i_10, i_12, i_16, i_20, i_21, i_32, i_40, i_60, ol_19, ol_20, ax_obj_of (hs _ _ _), iv_rd, sl_19]
        refine k_callV gl_19 (c_E_skip (fun _ => hs _ _ _) hn hA hl) rfl rfl rfl ?_
        simp (disch := omega) only [e_cons, e_il, e_ll, e_al, e_lc0, e_lcs, e_ei, e_el, e_er, e_const, e_istore, e_lstore, e_astore, e_iinc, e_s1_0, e_s1_1, e_s1_2, e_s1_3, e_s1_4, e_s1_5, e_s1_6, e_s1_7, e_s1_8, e_s1_9, e_s1_10, e_s2_0, e_s2_1, e_s2_2, e_s2_3, e_s2_4, e_s2_5, e_s2_6, e_s2_7, e_s2_8, e_s2_9, e_s2_10, e_dln, e_dli, e_dlr, e_dll, e_b, e_bd, e_lb, e_lbd, e_lcmp, e_i2l, e_l2i, e_i2b, e_dupi, e_dupr, e_dup2, e_getf, e_at0, e_ats, e_putI, e_putL, e_putR, e_gets, e_alen, e_iald, e_iast, e_bast, e_aast, e_if1, e_if2, e_goto, e_sw, e_iret, e_zret, e_lret, e_vret, e_obji, List.set_cons_zero, List.set_cons_succ, List.set_nil, Option.toList, List.nil_append, List.cons_append, List.length_cons, List.length_nil, true_or, or_true, true_and, and_true, nd_fold, Nat.one_mul, ↓m_1, ↓m_2, ↓m_3, ↓m_4, ↓m_9, ↓m_1000, nm_ne, nm_ne', nm_inj, nm_lt, nm_le, nm_gt, nm_ge, nm_xor, nm_add, Nat.add_sub_cancel, not_true_eq_false, not_false_eq_true, na_inj, na_le, na_lt, na_add, na_mul, na_and, na_or, na_xor, na_shl, na_shr, na_sub, i_0, i_1, i_2, i_3, i_4, i_5, i_6, i_7, i_8, i_9, i_10, i_12, i_16, i_20, i_21, i_32, i_40, i_60, ol_19, ol_20, ax_obj_of (hs _ _ _), iv_rd, sl_19]
        by_cases hk : ms_sk (ig A) (n - j) j < n
        · rw [if_pos hk] at h4
          refine ⟨fun _ => ?_, fun h => absurd hk h⟩
          refine kk_E_read_94 _ _ _ _ _ ?_
          simp (disch := omega) only [bk_E_read_94, e_cons, e_il, e_ll, e_al, e_lc0, e_lcs, e_ei, e_el, e_er, e_const, e_istore, e_lstore, e_astore, e_iinc, e_s1_0, e_s1_1, e_s1_2, e_s1_3, e_s1_4, e_s1_5, e_s1_6, e_s1_7, e_s1_8, e_s1_9, e_s1_10, e_s2_0, e_s2_1, e_s2_2, e_s2_3, e_s2_4, e_s2_5, e_s2_6, e_s2_7, e_s2_8, e_s2_9, e_s2_10, e_dln, e_dli, e_dlr, e_dll, e_b, e_bd, e_lb, e_lbd, e_lcmp, e_i2l, e_l2i, e_i2b, e_dupi, e_dupr, e_dup2, e_getf, e_at0, e_ats, e_putI, e_putL, e_putR, e_gets, e_alen, e_iald, e_iast, e_bast, e_aast, e_if1, e_if2, e_goto, e_sw, e_iret, e_zret, e_lret, e_vret, e_obji, List.set_cons_zero, List.set_cons_succ, List.set_nil, Option.toList, List.nil_append, List.cons_append, List.length_cons, List.length_nil, true_or, or_true, true_and, and_true, nd_fold, Nat.one_mul, ↓m_1, ↓m_2, ↓m_3, ↓m_4, ↓m_9, ↓m_1000, nm_ne, nm_ne', nm_inj, nm_lt, nm_le, nm_gt, nm_ge, nm_xor, nm_add, Nat.add_sub_cancel, not_true_eq_false, not_false_eq_true, na_inj, na_le, na_lt, na_add, na_mul, na_and, na_or, na_xor, na_shl, na_shr, na_sub, i_0, i_1, i_2, i_3, i_4, i_5, i_6, i_7, i_8, i_9, i_10, i_12, i_16, i_20, i_21, i_32, i_40, i_60, ol_19, ol_20, ax_obj_of (hs _ _ _), iv_rd, sl_19]
          exact ih (k + 1) _ _ _ (by omega) (by omega) w2 h4
        · rw [if_neg hk] at h4
          refine ⟨fun h => absurd h hk, fun _ => ?_⟩
          rw [h4]
          exact ⟨rfl, rfl⟩
  have s0 := ms_sk_le (T := ig A) (z := n) (i := 0)
  unfold ms_rd at hF
  refine kk_E_read_0 _ _ _ _ _ ?_
  simp (disch := omega) only [bk_E_read_0, e_cons, e_il, e_ll, e_al, e_lc0, e_lcs, e_ei, e_el, e_er, e_const, e_istore, e_lstore, e_astore, e_iinc, e_s1_0, e_s1_1, e_s1_2, e_s1_3, e_s1_4, e_s1_5, e_s1_6, e_s1_7, e_s1_8, e_s1_9, e_s1_10, e_s2_0, e_s2_1, e_s2_2, e_s2_3, e_s2_4, e_s2_5, e_s2_6, e_s2_7, e_s2_8, e_s2_9, e_s2_10, e_dln, e_dli, e_dlr, e_dll, e_b, e_bd, e_lb, e_lbd, e_lcmp, e_i2l, e_l2i, e_i2b, e_dupi, e_dupr, e_dup2, e_getf, e_at0, e_ats, e_putI, e_putL, e_putR, e_gets, e_alen, e_iald, e_iast, e_bast, e_aast, e_if1, e_if2, e_goto, e_sw, e_iret, e_zret, e_lret, e_vret, e_obji, List.set_cons_zero, List.set_cons_succ, List.set_nil, Option.toList, List.nil_append, List.cons_append, List.length_cons, List.length_nil, true_or, or_true, true_and, and_true, nd_fold, Nat.one_mul, ↓m_1, ↓m_2, ↓m_3, ↓m_4, ↓m_9, ↓m_1000, nm_ne, nm_ne', nm_inj, nm_lt, nm_le, nm_gt, nm_ge, nm_xor, nm_add, Nat.add_sub_cancel, not_true_eq_false, not_false_eq_true, na_inj, na_le, na_lt, na_add, na_mul, na_and, na_or, na_xor, na_shl, na_shr, na_sub, i_0, i_1, i_2, i_3, i_4, i_5, i_6, i_7, i_8, i_9, i_10, i_12, i_16, i_20, i_21, i_32, i_40, i_60, lay_rz, ol_25, sl_25, ol_19, ol_20, ax_obj_of (hs _ _ _), iv_rd, sl_19]
  rw [lay_gz (gi := gi) (gc := gc)]
  refine k_callV gl_19 (c_E_skip (fun _ => hs _ _ _) hn hA (show 0 ≤ n by omega)) rfl rfl rfl ?_
  simp (disch := omega) only [e_cons, e_il, e_ll, e_al, e_lc0, e_lcs, e_ei, e_el, e_er, e_const, e_istore, e_lstore, e_astore, e_iinc, e_s1_0, e_s1_1, e_s1_2, e_s1_3, e_s1_4, e_s1_5, e_s1_6, e_s1_7, e_s1_8, e_s1_9, e_s1_10, e_s2_0, e_s2_1, e_s2_2, e_s2_3, e_s2_4, e_s2_5, e_s2_6, e_s2_7, e_s2_8, e_s2_9, e_s2_10, e_dln, e_dli, e_dlr, e_dll, e_b, e_bd, e_lb, e_lbd, e_lcmp, e_i2l, e_l2i, e_i2b, e_dupi, e_dupr, e_dup2, e_getf, e_at0, e_ats, e_putI, e_putL, e_putR, e_gets, e_alen, e_iald, e_iast, e_bast, e_aast, e_if1, e_if2, e_goto, e_sw, e_iret, e_zret, e_lret, e_vret, e_obji, List.set_cons_zero, List.set_cons_succ, List.set_nil, Option.toList, List.nil_append, List.cons_append, List.length_cons, List.length_nil, true_or, or_true, true_and, and_true, nd_fold, Nat.one_mul, ↓m_1, ↓m_2, ↓m_3, ↓m_4, ↓m_9, ↓m_1000, nm_ne, nm_ne', nm_inj, nm_lt, nm_le, nm_gt, nm_ge, nm_xor, nm_add, Nat.add_sub_cancel, not_true_eq_false, not_false_eq_true, na_inj, na_le, na_lt, na_add, na_mul, na_and, na_or, na_xor, na_shl, na_shr, na_sub, i_0, i_1, i_2, i_3, i_4, i_5, i_6, i_7, i_8, i_9, i_10, i_12, i_16, i_20, i_21, i_32, i_40, i_60, ol_19, ol_20, ax_obj_of (hs _ _ _), iv_rd, sl_19]
  refine k_callV gl_19 (c_E_chairs (fun _ _ => hs _ _ _) hn hA (show ms_sk (ig A) n 0 ≤ n by omega)) rfl rfl rfl ?_
  simp (disch := omega) only [e_cons, e_il, e_ll, e_al, e_lc0, e_lcs, e_ei, e_el, e_er, e_const, e_istore, e_lstore, e_astore, e_iinc, e_s1_0, e_s1_1, e_s1_2, e_s1_3, e_s1_4, e_s1_5, e_s1_6, e_s1_7, e_s1_8, e_s1_9, e_s1_10, e_s2_0, e_s2_1, e_s2_2, e_s2_3, e_s2_4, e_s2_5, e_s2_6, e_s2_7, e_s2_8, e_s2_9, e_s2_10, e_dln, e_dli, e_dlr, e_dll, e_b, e_bd, e_lb, e_lbd, e_lcmp, e_i2l, e_l2i, e_i2b, e_dupi, e_dupr, e_dup2, e_getf, e_at0, e_ats, e_putI, e_putL, e_putR, e_gets, e_alen, e_iald, e_iast, e_bast, e_aast, e_if1, e_if2, e_goto, e_sw, e_iret, e_zret, e_lret, e_vret, e_obji, List.set_cons_zero, List.set_cons_succ, List.set_nil, Option.toList, List.nil_append, List.cons_append, List.length_cons, List.length_nil, true_or, or_true, true_and, and_true, nd_fold, Nat.one_mul, ↓m_1, ↓m_2, ↓m_3, ↓m_4, ↓m_9, ↓m_1000, nm_ne, nm_ne', nm_inj, nm_lt, nm_le, nm_gt, nm_ge, nm_xor, nm_add, Nat.add_sub_cancel, not_true_eq_false, not_false_eq_true, na_inj, na_le, na_lt, na_add, na_mul, na_and, na_or, na_xor, na_shl, na_shr, na_sub, i_0, i_1, i_2, i_3, i_4, i_5, i_6, i_7, i_8, i_9, i_10, i_12, i_16, i_20, i_21, i_32, i_40, i_60, ol_19, ol_20, ax_obj_of (hs _ _ _), iv_rd, sl_19]
  generalize hc : ms_rch (ig A) n (ms_sk (ig A) n 0) = C at *
  obtain ⟨b, i, ch⟩ := C
  have hi : i ≤ n := by
    unfold ms_rch at hc
    split at hc
    · have := (ms_rc_le (T := ig A) (n := n) (z := 9) (i := ms_sk (ig A) n 0 + 1) (many := 0) (l1 := 0) (ch := 0) (by omega)).1
      rw [hc] at this
      exact this
    · cases hc
      omega
  have e : ∀ x, (([], 0, x, gt, gb, gs', gp.map nI ++ gr') : ms_RR) = ms_gz (gp, gi, gc, gt, gb, gs', gr') x := fun _ => rfl
  rw [e]
  cases b with
  | false =>
    refine ⟨fun h => absurd rfl h, fun _ => ?_⟩
    simp (disch := omega) only [e_cons, e_il, e_ll, e_al, e_lc0, e_lcs, e_ei, e_el, e_er, e_const, e_istore, e_lstore, e_astore, e_iinc, e_s1_0, e_s1_1, e_s1_2, e_s1_3, e_s1_4, e_s1_5, e_s1_6, e_s1_7, e_s1_8, e_s1_9, e_s1_10, e_s2_0, e_s2_1, e_s2_2, e_s2_3, e_s2_4, e_s2_5, e_s2_6, e_s2_7, e_s2_8, e_s2_9, e_s2_10, e_dln, e_dli, e_dlr, e_dll, e_b, e_bd, e_lb, e_lbd, e_lcmp, e_i2l, e_l2i, e_i2b, e_dupi, e_dupr, e_dup2, e_getf, e_at0, e_ats, e_putI, e_putL, e_putR, e_gets, e_alen, e_iald, e_iast, e_bast, e_aast, e_if1, e_if2, e_goto, e_sw, e_iret, e_zret, e_lret, e_vret, e_obji, List.set_cons_zero, List.set_cons_succ, List.set_nil, Option.toList, List.nil_append, List.cons_append, List.length_cons, List.length_nil, true_or, or_true, true_and, and_true, nd_fold, Nat.one_mul, ↓m_1, ↓m_2, ↓m_3, ↓m_4, ↓m_9, ↓m_1000, nm_ne, nm_ne', nm_inj, nm_lt, nm_le, nm_gt, nm_ge, nm_xor, nm_add, Nat.add_sub_cancel, not_true_eq_false, not_false_eq_true, na_inj, na_le, na_lt, na_add, na_mul, na_and, na_or, na_xor, na_shl, na_shr, na_sub, i_0, i_1, i_2, i_3, i_4, i_5, i_6, i_7, i_8, i_9, i_10, i_12, i_16, i_20, i_21, i_32, i_40, i_60, ol_19, ol_20, ax_obj_of (hs _ _ _), iv_rd, sl_19]
    rw [← hF]
    exact ⟨rfl, rfl⟩
  | true =>
    refine ⟨fun _ => ?_, fun h => absurd (show ¬ nI 1 = nI 0 by decide) h⟩
    refine kk_E_read_49 _ _ _ _ _ ?_
    simp (disch := omega) only [bk_E_read_49, e_cons, e_il, e_ll, e_al, e_lc0, e_lcs, e_ei, e_el, e_er, e_const, e_istore, e_lstore, e_astore, e_iinc, e_s1_0, e_s1_1, e_s1_2, e_s1_3, e_s1_4, e_s1_5, e_s1_6, e_s1_7, e_s1_8, e_s1_9, e_s1_10, e_s2_0, e_s2_1, e_s2_2, e_s2_3, e_s2_4, e_s2_5, e_s2_6, e_s2_7, e_s2_8, e_s2_9, e_s2_10, e_dln, e_dli, e_dlr, e_dll, e_b, e_bd, e_lb, e_lbd, e_lcmp, e_i2l, e_l2i, e_i2b, e_dupi, e_dupr, e_dup2, e_getf, e_at0, e_ats, e_putI, e_putL, e_putR, e_gets, e_alen, e_iald, e_iast, e_bast, e_aast, e_if1, e_if2, e_goto, e_sw, e_iret, e_zret, e_lret, e_vret, e_obji, List.set_cons_zero, List.set_cons_succ, List.set_nil, Option.toList, List.nil_append, List.cons_append, List.length_cons, List.length_nil, true_or, or_true, true_and, and_true, nd_fold, Nat.one_mul, ↓m_1, ↓m_2, ↓m_3, ↓m_4, ↓m_9, ↓m_1000, nm_ne, nm_ne', nm_inj, nm_lt, nm_le, nm_gt, nm_ge, nm_xor, nm_add, Nat.add_sub_cancel, not_true_eq_false, not_false_eq_true, na_inj, na_le, na_lt, na_add, na_mul, na_and, na_or, na_xor, na_shl, na_shr, na_sub, i_0, i_1, i_2, i_3, i_4, i_5, i_6, i_7, i_8, i_9, i_10, i_12, i_16, i_20, i_21, i_32, i_40, i_60, ol_19, ol_20, ax_obj_of (hs _ _ _), iv_rd, sl_19]
    refine k_callV gl_19 (c_E_skip (fun _ => hs _ _ _) hn hA hi) rfl rfl rfl ?_
    simp (disch := omega) only [e_cons, e_il, e_ll, e_al, e_lc0, e_lcs, e_ei, e_el, e_er, e_const, e_istore, e_lstore, e_astore, e_iinc, e_s1_0, e_s1_1, e_s1_2, e_s1_3, e_s1_4, e_s1_5, e_s1_6, e_s1_7, e_s1_8, e_s1_9, e_s1_10, e_s2_0, e_s2_1, e_s2_2, e_s2_3, e_s2_4, e_s2_5, e_s2_6, e_s2_7, e_s2_8, e_s2_9, e_s2_10, e_dln, e_dli, e_dlr, e_dll, e_b, e_bd, e_lb, e_lbd, e_lcmp, e_i2l, e_l2i, e_i2b, e_dupi, e_dupr, e_dup2, e_getf, e_at0, e_ats, e_putI, e_putL, e_putR, e_gets, e_alen, e_iald, e_iast, e_bast, e_aast, e_if1, e_if2, e_goto, e_sw, e_iret, e_zret, e_lret, e_vret, e_obji, List.set_cons_zero, List.set_cons_succ, List.set_nil, Option.toList, List.nil_append, List.cons_append, List.length_cons, List.length_nil, true_or, or_true, true_and, and_true, nd_fold, Nat.one_mul, ↓m_1, ↓m_2, ↓m_3, ↓m_4, ↓m_9, ↓m_1000, nm_ne, nm_ne', nm_inj, nm_lt, nm_le, nm_gt, nm_ge, nm_xor, nm_add, Nat.add_sub_cancel, not_true_eq_false, not_false_eq_true, na_inj, na_le, na_lt, na_add, na_mul, na_and, na_or, na_xor, na_shl, na_shr, na_sub, i_0, i_1, i_2, i_3, i_4, i_5, i_6, i_7, i_8, i_9, i_10, i_12, i_16, i_20, i_21, i_32, i_40, i_60, ol_19, ol_20, ax_obj_of (hs _ _ _), iv_rd, sl_19]
    have s1 := ms_sk_le (T := ig A) (z := n - i) (i := i)
    exact loop 7 0 _ _ _ rfl (by omega) (rdw_z ch hw) hF.symm
end EX
