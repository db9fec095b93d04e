/-! reading: CHAIRS -/
def ms_rc (T : Nat → Int32) (n : Nat) : Nat → Nat → Nat → Nat → Nat → Bool × Nat × Nat
  | 0, i, _, _, ch => (false, i, ch)
  | z + 1, i, many, l1, ch => if i < n then (match dg (T i) with
    | some d => if d < l1 ∨ 7 < d ∨ many = 7 then (false, i, ch) else ms_rc T n z (i + 1) (many + 1) (d + 1) (ch ||| 2 ^ d)
    | none => (decide (0 < many), i, ch)) else (decide (0 < many), i, ch)
def ms_rch (T : Nat → Int32) (n i : Nat) : Bool × Nat × Nat := if i < n ∧ (114 : Int32) = T i then ms_rc T n 9 (i + 1) 0 0 0 else (false, i, 0)
theorem ms_rc_le {T : Nat → Int32} {n : Nat} : ∀ {z i many l1 ch : Nat}, i ≤ n → (ms_rc T n z i many l1 ch).2.1 ≤ n ∧ i ≤ (ms_rc T n z i many l1 ch).2.1 := by
  intro z
  induction z with
  | zero => intro i many l1 ch h; exact ⟨h, Nat.le_refl _⟩
  | succ z ih =>
    intro i many l1 ch h
    unfold ms_rc
    split
    · split
      · split
        · exact ⟨h, Nat.le_refl _⟩
        · next d _ _ => have := ih (i := i + 1) (many := many + 1) (l1 := d + 1) (ch := ch ||| 2 ^ d) (by omega); omega
      · exact ⟨h, Nat.le_refl _⟩
    · exact ⟨h, Nat.le_refl _⟩
theorem ms_rc_ch {T : Nat → Int32} {n : Nat} : ∀ {z i many l1 ch : Nat}, ch < 256 → (ms_rc T n z i many l1 ch).2.2 < 256 := by
  intro z
  induction z with
  | zero => intro i many l1 ch h; exact h
  | succ z ih =>
    intro i many l1 ch h
    unfold ms_rc
    split
    · split
      · split
        · exact h
        · next d _ hd => exact ih (or_lt (n := 8) h (pow_lt (by omega)))
      · exact h
    · exact h
section EC
variable {xs : List Value} {rw : List Int32 × List (List Int32)} {tx : List Int32 × List (List Int32)} {rm : List Nat × List Nat × List Nat × List Nat × List Int32 × List Int32 × List Int32 × List Int32} {rr : List Nat × Nat × Nat × Nat × Nat × Nat × List Int32} {nx : Nat} {mn : List Nat × List Nat × List Nat × List Nat × List Int32 × List Int32 × List Int32 × List Int32} {ru : List Nat × Nat × Nat × Nat × Nat × Nat × List Int32} {nw : List Nat × Nat × Nat × Nat × Nat × Nat × List Int32} {ra : List Nat × Nat × Nat × Nat × Nat × Nat × List Int32} {dd : List Nat × List Int32} {k0 : Bool × List Nat × List Int32} {k1 : Bool × List Nat × List Int32} {k2 : Bool × List Nat × List Int32} {fc : List Int32} {lf : Int32} {td : Int32} {tu : Int64} {tl : Int64} {τ : ax_H}
theorem c_E_chairs {s n i : Nat} {A : List Int32} {gp : List Nat} {gi gt gb gs' : Nat} {gr' : List Int32} (hs : ∀ nx rr, ax_get (lay xs rw tx rm rr nx mn ru nw ra dd k0 k1 k2 fc lf td tu tl τ) s = some (21, iv A)) (hn : n ≤ A.length) (hA : A.length ≤ 100) (hi0 : i ≤ n) : ax_ev mi_E_readChairs [.ref 19, .ref s, .int (nI n)] (lay xs rw tx rm (gp, gi, 0, gt, gb, gs', gr') i mn ru nw ra dd k0 k1 k2 fc lf td tu tl τ) (some (.int (nI (bz (ms_rch (ig A) n i).1)))) (lay xs rw tx rm (gp, gi, (ms_rch (ig A) n i).2.2, gt, gb, gs', gr') (ms_rch (ig A) n i).2.1 mn ru nw ra dd k0 k1 k2 fc lf td tu tl τ) := by
  refine ax_beg 3 rfl rfl ?_
  simp only [ax_ent, List.replicate, List.cons_append, List.nil_append, List.append_nil]
  generalize hF : ms_rch (ig A) n i = F
  have end' : ∀ (b : Bool) (j ch : Nat) (l3 l4 l5 : Option Value), F = (b, j, ch) → b = false → ∀ pc, pc = 97 ∨ pc = 19 → ax_go mi_E_readChairs (fun v' H'' => v' = some (.int (nI (bz F.1))) ∧ H'' = (lay xs rw tx rm (gp, gi, F.2.2, gt, gb, gs', gr') F.2.1 mn ru nw ra dd k0 k1 k2 fc lf td tu tl τ)) pc (0, 0) [some (.ref 19), some (.ref s), some (.int (nI n)), l3, l4, l5] [] (lay xs rw tx rm (gp, gi, ch, gt, gb, gs', gr') j mn ru nw ra dd k0 k1 k2 fc lf td tu tl τ) := by
    intro b j ch l3 l4 l5 h1 h2 pc h3
    subst h2
    rw [h1]
    rcases h3 with rfl | rfl
    · refine kk_E_readChairs_97 _ _ _ _ _ ?_
      simp (disch := omega) only [bk_E_readChairs_97, e_cons, e_il, e_ll, e_al, e_lc0, e_lcs, e_ei, e_el, e_er, e_const, e_istore, e_lstore, e_astore, e_iinc, e_s1_0, e_s1_1, e_s1_2, e_s1_3, e_s1_4, e_s1_5, e_s1_6, e_s1_7, e_s1_8, e_s1_9, e_s1_10, e_s2_0, e_s2_1, e_s2_2, e_s2_3, e_s2_4, e_s2_5, e_s2_6, e_s2_7, e_s2_8, e_s2_9, e_s2_10, e_dln, e_dli, e_dlr, e_dll, e_b, e_bd, e_lb, e_lbd, e_lcmp, e_i2l, e_l2i, e_i2b, e_dupi, e_dupr, e_dup2, e_getf, e_at0, e_ats, e_putI, e_putL, e_putR, e_gets, e_alen, e_iald, e_iast, e_bast, e_aast, e_if1, e_if2, e_goto, e_sw, e_iret, e_zret, e_lret, e_vret, e_obji, List.set_cons_zero, List.set_cons_succ, List.set_nil, Option.toList, List.nil_append, List.cons_append, List.length_cons, List.length_nil, true_or, or_true, true_and, and_true, nd_fold, Nat.one_mul, ↓m_1, ↓m_2, ↓m_3, ↓m_4, ↓m_9, ↓m_1000, nm_ne, nm_ne', nm_inj, nm_lt, nm_le, nm_gt, nm_ge, nm_xor, nm_add, Nat.add_sub_cancel, not_true_eq_false, not_false_eq_true, na_inj, na_le, na_lt, na_add, na_mul, na_and, na_or, na_xor, na_shl, na_shr, na_sub, i_0, i_1, i_2, i_3, i_4, i_5, i_6, i_7, i_8, i_9, i_10, i_12, i_16, i_20, i_21, i_32, i_40, i_60, ol_19, ax_obj_of (hs _ _), iv_rd, sl_19, ol_25, sl_25, i_48, i_57]
      rfl
    · refine kk_E_readChairs_19 _ _ _ _ _ ?_
      simp (disch := omega) only [bk_E_readChairs_19, e_cons, e_il, e_ll, e_al, e_lc0, e_lcs, e_ei, e_el, e_er, e_const, e_istore, e_lstore, e_astore, e_iinc, e_s1_0, e_s1_1, e_s1_2, e_s1_3, e_s1_4, e_s1_5, e_s1_6, e_s1_7, e_s1_8, e_s1_9, e_s1_10, e_s2_0, e_s2_1, e_s2_2, e_s2_3, e_s2_4, e_s2_5, e_s2_6, e_s2_7, e_s2_8, e_s2_9, e_s2_10, e_dln, e_dli, e_dlr, e_dll, e_b, e_bd, e_lb, e_lbd, e_lcmp, e_i2l, e_l2i, e_i2b, e_dupi, e_dupr, e_dup2, e_getf, e_at0, e_ats, e_putI, e_putL, e_putR, e_gets, e_alen, e_iald, e_iast, e_bast, e_aast, e_if1, e_if2, e_goto, e_sw, e_iret, e_zret, e_lret, e_vret, e_obji, List.set_cons_zero, List.set_cons_succ, List.set_nil, Option.toList, List.nil_append, List.cons_append, List.length_cons, List.length_nil, true_or, or_true, true_and, and_true, nd_fold, Nat.one_mul, ↓m_1, ↓m_2, ↓m_3, ↓m_4, ↓m_9, ↓m_1000, nm_ne, nm_ne', nm_inj, nm_lt, nm_le, nm_gt, nm_ge, nm_xor, nm_add, Nat.add_sub_cancel, not_true_eq_false, not_false_eq_true, na_inj, na_le, na_lt, na_add, na_mul, na_and, na_or, na_xor, na_shl, na_shr, na_sub, i_0, i_1, i_2, i_3, i_4, i_5, i_6, i_7, i_8, i_9, i_10, i_12, i_16, i_20, i_21, i_32, i_40, i_60, ol_19, ax_obj_of (hs _ _), iv_rd, sl_19, ol_25, sl_25, i_48, i_57]
      rfl
  have endg : ∀ (many j ch : Nat) (l4 l5 : Option Value), many < 100 → F = (decide (0 < many), j, ch) → ax_go mi_E_readChairs (fun v' H'' => v' = some (.int (nI (bz F.1))) ∧ H'' = (lay xs rw tx rm (gp, gi, F.2.2, gt, gb, gs', gr') F.2.1 mn ru nw ra dd k0 k1 k2 fc lf td tu tl τ)) 135 (0, 0) [some (.ref 19), some (.ref s), some (.int (nI n)), some (.int (nI many)), l4, l5] [] (lay xs rw tx rm (gp, gi, ch, gt, gb, gs', gr') j mn ru nw ra dd k0 k1 k2 fc lf td tu tl τ) := by
    intro many j ch l4 l5 hm h1
    rw [h1]
    refine kk_E_readChairs_135 _ _ _ _ _ ?_
    simp (disch := omega) only [bk_E_readChairs_135, e_cons, e_il, e_ll, e_al, e_lc0, e_lcs, e_ei, e_el, e_er, e_const, e_istore, e_lstore, e_astore, e_iinc, e_s1_0, e_s1_1, e_s1_2, e_s1_3, e_s1_4, e_s1_5, e_s1_6, e_s1_7, e_s1_8, e_s1_9, e_s1_10, e_s2_0, e_s2_1, e_s2_2, e_s2_3, e_s2_4, e_s2_5, e_s2_6, e_s2_7, e_s2_8, e_s2_9, e_s2_10, e_dln, e_dli, e_dlr, e_dll, e_b, e_bd, e_lb, e_lbd, e_lcmp, e_i2l, e_l2i, e_i2b, e_dupi, e_dupr, e_dup2, e_getf, e_at0, e_ats, e_putI, e_putL, e_putR, e_gets, e_alen, e_iald, e_iast, e_bast, e_aast, e_if1, e_if2, e_goto, e_sw, e_iret, e_zret, e_lret, e_vret, e_obji, List.set_cons_zero, List.set_cons_succ, List.set_nil, Option.toList, List.nil_append, List.cons_append, List.length_cons, List.length_nil, true_or, or_true, true_and, and_true, nd_fold, Nat.one_mul, ↓m_1, ↓m_2, ↓m_3, ↓m_4, ↓m_9, ↓m_1000, nm_ne, nm_ne', nm_inj, nm_lt, nm_le, nm_gt, nm_ge, nm_xor, nm_add, Nat.add_sub_cancel, not_true_eq_false, not_false_eq_true, na_inj, na_le, na_lt, na_add, na_mul, na_and, na_or, na_xor, na_shl, na_shr, na_sub, i_0, i_1, i_2, i_3, i_4, i_5, i_6, i_7, i_8, i_9, i_10, i_12, i_16, i_20, i_21, i_32, i_40, i_60, ol_19, ax_obj_of (hs _ _), iv_rd, sl_19, ol_25, sl_25, i_48, i_57]
    refine ⟨fun h => ?_, fun h => ?_⟩
    · refine kk_E_readChairs_143 _ _ _ _ _ ?_
      simp (disch := omega) only [bk_E_readChairs_143, e_cons, e_il, e_ll, e_al, e_lc0, e_lcs, e_ei, e_el, e_er, e_const, e_istore, e_lstore, e_astore, e_iinc, e_s1_0, e_s1_1, e_s1_2, e_s1_3, e_s1_4, e_s1_5, e_s1_6, e_s1_7, e_s1_8, e_s1_9, e_s1_10, e_s2_0, e_s2_1, e_s2_2, e_s2_3, e_s2_4, e_s2_5, e_s2_6, e_s2_7, e_s2_8, e_s2_9, e_s2_10, e_dln, e_dli, e_dlr, e_dll, e_b, e_bd, e_lb, e_lbd, e_lcmp, e_i2l, e_l2i, e_i2b, e_dupi, e_dupr, e_dup2, e_getf, e_at0, e_ats, e_putI, e_putL, e_putR, e_gets, e_alen, e_iald, e_iast, e_bast, e_aast, e_if1, e_if2, e_goto, e_sw, e_iret, e_zret, e_lret, e_vret, e_obji, List.set_cons_zero, List.set_cons_succ, List.set_nil, Option.toList, List.nil_append, List.cons_append, List.length_cons, List.length_nil, true_or, or_true, true_and, and_true, nd_fold, Nat.one_mul, ↓m_1, ↓m_2, ↓m_3, ↓m_4, ↓m_9, ↓m_1000, nm_ne, nm_ne', nm_inj, nm_lt, nm_le, nm_gt, nm_ge, nm_xor, nm_add, Nat.add_sub_cancel, not_true_eq_false, not_false_eq_true, na_inj, na_le, na_lt, na_add, na_mul, na_and, na_or, na_xor, na_shl, na_shr, na_sub, i_0, i_1, i_2, i_3, i_4, i_5, i_6, i_7, i_8, i_9, i_10, i_12, i_16, i_20, i_21, i_32, i_40, i_60, ol_19, ax_obj_of (hs _ _), iv_rd, sl_19, ol_25, sl_25, i_48, i_57]
      refine kk_E_readChairs_144 _ _ _ _ _ ?_
      simp (disch := omega) only [bk_E_readChairs_144, e_cons, e_il, e_ll, e_al, e_lc0, e_lcs, e_ei, e_el, e_er, e_const, e_istore, e_lstore, e_astore, e_iinc, e_s1_0, e_s1_1, e_s1_2, e_s1_3, e_s1_4, e_s1_5, e_s1_6, e_s1_7, e_s1_8, e_s1_9, e_s1_10, e_s2_0, e_s2_1, e_s2_2, e_s2_3, e_s2_4, e_s2_5, e_s2_6, e_s2_7, e_s2_8, e_s2_9, e_s2_10, e_dln, e_dli, e_dlr, e_dll, e_b, e_bd, e_lb, e_lbd, e_lcmp, e_i2l, e_l2i, e_i2b, e_dupi, e_dupr, e_dup2, e_getf, e_at0, e_ats, e_putI, e_putL, e_putR, e_gets, e_alen, e_iald, e_iast, e_bast, e_aast, e_if1, e_if2, e_goto, e_sw, e_iret, e_zret, e_lret, e_vret, e_obji, List.set_cons_zero, List.set_cons_succ, List.set_nil, Option.toList, List.nil_append, List.cons_append, List.length_cons, List.length_nil, true_or, or_true, true_and, and_true, nd_fold, Nat.one_mul, ↓m_1, ↓m_2, ↓m_3, ↓m_4, ↓m_9, ↓m_1000, nm_ne, nm_ne', nm_inj, nm_lt, nm_le, nm_gt, nm_ge, nm_xor, nm_add, Nat.add_sub_cancel, not_true_eq_false, not_false_eq_true, na_inj, na_le, na_lt, na_add, na_mul, na_and, na_or, na_xor, na_shl, na_shr, na_sub, i_0, i_1, i_2, i_3, i_4, i_5, i_6, i_7, i_8, i_9, i_10, i_12, i_16, i_20, i_21, i_32, i_40, i_60, ol_19, ax_obj_of (hs _ _), iv_rd, sl_19, ol_25, sl_25, i_48, i_57]
      exact zf (by simp; omega)
    · refine kk_E_readChairs_144 _ _ _ _ _ ?_
      simp (disch := omega) only [bk_E_readChairs_144, e_cons, e_il, e_ll, e_al, e_lc0, e_lcs, e_ei, e_el, e_er, e_const, e_istore, e_lstore, e_astore, e_iinc, e_s1_0, e_s1_1, e_s1_2, e_s1_3, e_s1_4, e_s1_5, e_s1_6, e_s1_7, e_s1_8, e_s1_9, e_s1_10, e_s2_0, e_s2_1, e_s2_2, e_s2_3, e_s2_4, e_s2_5, e_s2_6, e_s2_7, e_s2_8, e_s2_9, e_s2_10, e_dln, e_dli, e_dlr, e_dll, e_b, e_bd, e_lb, e_lbd, e_lcmp, e_i2l, e_l2i, e_i2b, e_dupi, e_dupr, e_dup2, e_getf, e_at0, e_ats, e_putI, e_putL, e_putR, e_gets, e_alen, e_iald, e_iast, e_bast, e_aast, e_if1, e_if2, e_goto, e_sw, e_iret, e_zret, e_lret, e_vret, e_obji, List.set_cons_zero, List.set_cons_succ, List.set_nil, Option.toList, List.nil_append, List.cons_append, List.length_cons, List.length_nil, true_or, or_true, true_and, and_true, nd_fold, Nat.one_mul, ↓m_1, ↓m_2, ↓m_3, ↓m_4, ↓m_9, ↓m_1000, nm_ne, nm_ne', nm_inj, nm_lt, nm_le, nm_gt, nm_ge, nm_xor, nm_add, Nat.add_sub_cancel, not_true_eq_false, not_false_eq_true, na_inj, na_le, na_lt, na_add, na_mul, na_and, na_or, na_xor, na_shl, na_shr, na_sub, i_0, i_1, i_2, i_3, i_4, i_5, i_6, i_7, i_8, i_9, i_10, i_12, i_16, i_20, i_21, i_32, i_40, i_60, ol_19, ax_obj_of (hs _ _), iv_rd, sl_19, ol_25, sl_25, i_48, i_57]
      exact zt (by simp; omega)
  have loop : ∀ (z j many l1 ch : Nat) (lv l5 : Option Value), many + z = 9 → j ≤ n → l1 ≤ 8 → ch < 256 → lv = some (.int (if l1 = 0 then nm 1 else nI (l1 - 1))) → many ≤ 7 → F = ms_rc (ig A) n z j many l1 ch → ax_go mi_E_readChairs (fun v' H'' => v' = some (.int (nI (bz F.1))) ∧ H'' = (lay xs rw tx rm (gp, gi, F.2.2, gt, gb, gs', gr') F.2.1 mn ru nw ra dd k0 k1 k2 fc lf td tu tl τ)) 36 (0, 0) [some (.ref 19), some (.ref s), some (.int (nI n)), some (.int (nI many)), lv, l5] [] (lay xs rw tx rm (gp, gi, ch, gt, gb, gs', gr') j mn ru nw ra dd k0 k1 k2 fc lf td tu tl τ) := by
    intro z
    induction z with
    | zero => intro j many l1 ch lv l5 h1 h2 h3 h4 h5 h6; omega
    | succ z ih =>
      intro j many l1 ch lv l5 h1 h2 h3 hch h5 h6 hF
      subst h5
      unfold ms_rc at hF
      by_cases hj : j < n
      · rw [if_pos hj] at hF
        cases hd : dg (ig A j) with
        | none =>
          rw [hd] at hF
          have hnd : ¬ (nI 48 ≤ ig A j ∧ ig A j ≤ nI 57) := fun hc => by unfold dg at hd; rw [if_pos hc] at hd; cases hd
          refine kk_E_readChairs_36 _ _ _ _ _ ?_
          simp (disch := omega) only [bk_E_readChairs_36, e_cons, e_il, e_ll, e_al, e_lc0, e_lcs, e_ei, e_el, e_er, e_const, e_istore, e_lstore, e_astore, e_iinc, e_s1_0, e_s1_1, e_s1_2, e_s1_3, e_s1_4, e_s1_5, e_s1_6, e_s1_7, e_s1_8, e_s1_9, e_s1_10, e_s2_0, e_s2_1, e_s2_2, e_s2_3, e_s2_4, e_s2_5, e_s2_6, e_s2_7, e_s2_8, e_s2_9, e_s2_10, e_dln, e_dli, e_dlr, e_dll, e_b, e_bd, e_lb, e_lbd, e_lcmp, e_i2l, e_l2i, e_i2b, e_dupi, e_dupr, e_dup2, e_getf, e_at0, e_ats, e_putI, e_putL, e_putR, e_gets, e_alen, e_iald, e_iast, e_bast, e_aast, e_if1, e_if2, e_goto, e_sw, e_iret, e_zret, e_lret, e_vret, e_obji, List.set_cons_zero, List.set_cons_succ, List.set_nil, Option.toList, List.nil_append, List.cons_append, List.length_cons, List.length_nil, true_or, or_true, true_and, and_true, nd_fold, Nat.one_mul, ↓m_1, ↓m_2, ↓m_3, ↓m_4, ↓m_9, ↓m_1000, nm_ne, nm_ne', nm_inj, nm_lt, nm_le, nm_gt, nm_ge, nm_xor, nm_add, Nat.add_sub_cancel, not_true_eq_false, not_false_eq_true, na_inj, na_le, na_lt, na_add, na_mul, na_and, na_or, na_xor, na_shl, na_shr, na_sub, i_0, i_1, i_2, i_3, i_4, i_5, i_6, i_7, i_8, i_9, i_10, i_12, i_16, i_20, i_21, i_32, i_40, i_60, ol_19, ax_obj_of (hs _ _), iv_rd, sl_19, ol_25, sl_25, i_48, i_57]
          refine ⟨fun h => absurd h (by omega), fun _ => ⟨fun _ => endg many j ch _ _ (by omega) hF, fun hc1 => ⟨fun _ => endg many j ch _ _ (by omega) hF, fun hc2 => ?_⟩⟩⟩
          exact absurd ⟨Int32.not_lt.mp hc1, Int32.not_lt.mp hc2⟩ hnd
        | some d =>
          obtain ⟨d9, hx⟩ := dg_some hd
          rw [hd] at hF
          dsimp only at hF
          have hxl : ∀ P : Value → Prop, ax_rd (iv A) (nI j) P = P (.int (nI (48 + d))) := fun P => by rw [iv_rd (by omega) (by omega), hx]
          have hlt : (nI d ≤ (if l1 = 0 then nm 1 else nI (l1 - 1))) = (d < l1) := by
            split
            · rw [nm_ge (by omega) (by omega) (by omega)]; simp; omega
            · rw [na_le (by omega) (by omega)]; exact propext (by omega)
          refine kk_E_readChairs_36 _ _ _ _ _ ?_
          simp (disch := omega) only [bk_E_readChairs_36, e_cons, e_il, e_ll, e_al, e_lc0, e_lcs, e_ei, e_el, e_er, e_const, e_istore, e_lstore, e_astore, e_iinc, e_s1_0, e_s1_1, e_s1_2, e_s1_3, e_s1_4, e_s1_5, e_s1_6, e_s1_7, e_s1_8, e_s1_9, e_s1_10, e_s2_0, e_s2_1, e_s2_2, e_s2_3, e_s2_4, e_s2_5, e_s2_6, e_s2_7, e_s2_8, e_s2_9, e_s2_10, e_dln, e_dli, e_dlr, e_dll, e_b, e_bd, e_lb, e_lbd, e_lcmp, e_i2l, e_l2i, e_i2b, e_dupi, e_dupr, e_dup2, e_getf, e_at0, e_ats, e_putI, e_putL, e_putR, e_gets, e_alen, e_iald, e_iast, e_bast, e_aast, e_if1, e_if2, e_goto, e_sw, e_iret, e_zret, e_lret, e_vret, e_obji, List.set_cons_zero, List.set_cons_succ, List.set_nil, Option.toList, List.nil_append, List.cons_append, List.length_cons, List.length_nil, true_or, or_true, true_and, and_true, nd_fold, Nat.one_mul, ↓m_1, ↓m_2, ↓m_3, ↓m_4, ↓m_9, ↓m_1000, nm_ne, nm_ne', nm_inj, nm_lt, nm_le, nm_gt, nm_ge, nm_xor, nm_add, Nat.add_sub_cancel, not_true_eq_false, not_false_eq_true, na_inj, na_le, na_lt, na_add, na_mul, na_and, na_or, na_xor, na_shl, na_shr, na_sub, i_0, i_1, i_2, i_3, i_4, i_5, i_6, i_7, i_8, i_9, i_10, i_12, i_16, i_20, i_21, i_32, i_40, i_60, ol_19, ax_obj_of (hs _ _), hxl, Nat.add_sub_cancel_left, hlt, i_48, i_57]
          refine ⟨fun h => absurd h (by omega), fun _ => ⟨fun h => absurd h (by omega), fun _ => ⟨fun h => absurd h (by omega), fun _ => ?_⟩⟩⟩
          by_cases hb : d < l1 ∨ 7 < d ∨ many = 7
          · rw [if_pos hb] at hF
            refine ⟨fun _ => end' _ _ _ _ _ _ hF rfl 97 (Or.inl rfl), fun g1 => ⟨fun _ => end' _ _ _ _ _ _ hF rfl 97 (Or.inl rfl), fun g2 => ⟨fun g3 => absurd hb (by omega), fun _ => end' _ _ _ _ _ _ hF rfl 97 (Or.inl rfl)⟩⟩⟩
          · rw [if_neg hb] at hF
            refine ⟨fun g => absurd g (by omega), fun g1 => ⟨fun g => absurd g (by omega), fun g2 => ⟨fun g3 => ?_, fun g => absurd g (by omega)⟩⟩⟩
            refine kk_E_readChairs_99 _ _ _ _ _ ?_
            simp (disch := omega) only [bk_E_readChairs_99, e_cons, e_il, e_ll, e_al, e_lc0, e_lcs, e_ei, e_el, e_er, e_const, e_istore, e_lstore, e_astore, e_iinc, e_s1_0, e_s1_1, e_s1_2, e_s1_3, e_s1_4, e_s1_5, e_s1_6, e_s1_7, e_s1_8, e_s1_9, e_s1_10, e_s2_0, e_s2_1, e_s2_2, e_s2_3, e_s2_4, e_s2_5, e_s2_6, e_s2_7, e_s2_8, e_s2_9, e_s2_10, e_dln, e_dli, e_dlr, e_dll, e_b, e_bd, e_lb, e_lbd, e_lcmp, e_i2l, e_l2i, e_i2b, e_dupi, e_dupr, e_dup2, e_getf, e_at0, e_ats, e_putI, e_putL, e_putR, e_gets, e_alen, e_iald, e_iast, e_bast, e_aast, e_if1, e_if2, e_goto, e_sw, e_iret, e_zret, e_lret, e_vret, e_obji, List.set_cons_zero, List.set_cons_succ, List.set_nil, Option.toList, List.nil_append, List.cons_append, List.length_cons, List.length_nil, true_or, or_true, true_and, and_true, nd_fold, Nat.one_mul, ↓m_1, ↓m_2, ↓m_3, ↓m_4, ↓m_9, ↓m_1000, nm_ne, nm_ne', nm_inj, nm_lt, nm_le, nm_gt, nm_ge, nm_xor, nm_add, Nat.add_sub_cancel, not_true_eq_false, not_false_eq_true, na_inj, na_le, na_lt, na_add, na_mul, na_and, na_or, na_xor, na_shl, na_shr, na_sub, i_0, i_1, i_2, i_3, i_4, i_5, i_6, i_7, i_8, i_9, i_10, i_12, i_16, i_20, i_21, i_32, i_40, i_60, ol_19, ax_obj_of (hs _ _), iv_rd, sl_19, ol_25, sl_25, i_48, i_57]
            exact ih (j + 1) (many + 1) (d + 1) (ch ||| 2 ^ d) _ _ (by omega) (by omega) (by omega) (or_lt (n := 8) hch (pow_lt (by omega))) (by rw [if_neg (by omega), Nat.add_sub_cancel]) (by omega) hF
      · rw [if_neg hj] at hF
        refine kk_E_readChairs_36 _ _ _ _ _ ?_
        simp (disch := omega) only [bk_E_readChairs_36, e_cons, e_il, e_ll, e_al, e_lc0, e_lcs, e_ei, e_el, e_er, e_const, e_istore, e_lstore, e_astore, e_iinc, e_s1_0, e_s1_1, e_s1_2, e_s1_3, e_s1_4, e_s1_5, e_s1_6, e_s1_7, e_s1_8, e_s1_9, e_s1_10, e_s2_0, e_s2_1, e_s2_2, e_s2_3, e_s2_4, e_s2_5, e_s2_6, e_s2_7, e_s2_8, e_s2_9, e_s2_10, e_dln, e_dli, e_dlr, e_dll, e_b, e_bd, e_lb, e_lbd, e_lcmp, e_i2l, e_l2i, e_i2b, e_dupi, e_dupr, e_dup2, e_getf, e_at0, e_ats, e_putI, e_putL, e_putR, e_gets, e_alen, e_iald, e_iast, e_bast, e_aast, e_if1, e_if2, e_goto, e_sw, e_iret, e_zret, e_lret, e_vret, e_obji, List.set_cons_zero, List.set_cons_succ, List.set_nil, Option.toList, List.nil_append, List.cons_append, List.length_cons, List.length_nil, true_or, or_true, true_and, and_true, nd_fold, Nat.one_mul, ↓m_1, ↓m_2, ↓m_3, ↓m_4, ↓m_9, ↓m_1000, nm_ne, nm_ne', nm_inj, nm_lt, nm_le, nm_gt, nm_ge, nm_xor, nm_add, Nat.add_sub_cancel, not_true_eq_false, not_false_eq_true, na_inj, na_le, na_lt, na_add, na_mul, na_and, na_or, na_xor, na_shl, na_shr, na_sub, i_0, i_1, i_2, i_3, i_4, i_5, i_6, i_7, i_8, i_9, i_10, i_12, i_16, i_20, i_21, i_32, i_40, i_60, ol_19, ax_obj_of (hs _ _), iv_rd, sl_19, ol_25, sl_25, i_48, i_57]
        refine ⟨fun _ => endg many j ch _ _ (by omega) hF, fun h => absurd (show n ≤ j by omega) h⟩
  unfold ms_rch at hF
  by_cases hin : i < n
  · refine kk_E_readChairs_0 _ _ _ _ _ ?_
    simp (disch := omega) only [bk_E_readChairs_0, e_cons, e_il, e_ll, e_al, e_lc0, e_lcs, e_ei, e_el, e_er, e_const, e_istore, e_lstore, e_astore, e_iinc, e_s1_0, e_s1_1, e_s1_2, e_s1_3, e_s1_4, e_s1_5, e_s1_6, e_s1_7, e_s1_8, e_s1_9, e_s1_10, e_s2_0, e_s2_1, e_s2_2, e_s2_3, e_s2_4, e_s2_5, e_s2_6, e_s2_7, e_s2_8, e_s2_9, e_s2_10, e_dln, e_dli, e_dlr, e_dll, e_b, e_bd, e_lb, e_lbd, e_lcmp, e_i2l, e_l2i, e_i2b, e_dupi, e_dupr, e_dup2, e_getf, e_at0, e_ats, e_putI, e_putL, e_putR, e_gets, e_alen, e_iald, e_iast, e_bast, e_aast, e_if1, e_if2, e_goto, e_sw, e_iret, e_zret, e_lret, e_vret, e_obji, List.set_cons_zero, List.set_cons_succ, List.set_nil, Option.toList, List.nil_append, List.cons_append, List.length_cons, List.length_nil, true_or, or_true, true_and, and_true, nd_fold, Nat.one_mul, ↓m_1, ↓m_2, ↓m_3, ↓m_4, ↓m_9, ↓m_1000, nm_ne, nm_ne', nm_inj, nm_lt, nm_le, nm_gt, nm_ge, nm_xor, nm_add, Nat.add_sub_cancel, not_true_eq_false, not_false_eq_true, na_inj, na_le, na_lt, na_add, na_mul, na_and, na_or, na_xor, na_shl, na_shr, na_sub, i_0, i_1, i_2, i_3, i_4, i_5, i_6, i_7, i_8, i_9, i_10, i_12, i_16, i_20, i_21, i_32, i_40, i_60, ol_19, ax_obj_of (hs _ _), iv_rd, sl_19, ol_25, sl_25, i_48, i_57]
    refine ⟨fun h => absurd h (by omega), fun _ => ⟨fun h => ?_, fun h => ?_⟩⟩
    · rw [if_pos ⟨hin, h.symm⟩] at hF
      refine kk_E_readChairs_21 _ _ _ _ _ ?_
      simp (disch := omega) only [bk_E_readChairs_21, e_cons, e_il, e_ll, e_al, e_lc0, e_lcs, e_ei, e_el, e_er, e_const, e_istore, e_lstore, e_astore, e_iinc, e_s1_0, e_s1_1, e_s1_2, e_s1_3, e_s1_4, e_s1_5, e_s1_6, e_s1_7, e_s1_8, e_s1_9, e_s1_10, e_s2_0, e_s2_1, e_s2_2, e_s2_3, e_s2_4, e_s2_5, e_s2_6, e_s2_7, e_s2_8, e_s2_9, e_s2_10, e_dln, e_dli, e_dlr, e_dll, e_b, e_bd, e_lb, e_lbd, e_lcmp, e_i2l, e_l2i, e_i2b, e_dupi, e_dupr, e_dup2, e_getf, e_at0, e_ats, e_putI, e_putL, e_putR, e_gets, e_alen, e_iald, e_iast, e_bast, e_aast, e_if1, e_if2, e_goto, e_sw, e_iret, e_zret, e_lret, e_vret, e_obji, List.set_cons_zero, List.set_cons_succ, List.set_nil, Option.toList, List.nil_append, List.cons_append, List.length_cons, List.length_nil, true_or, or_true, true_and, and_true, nd_fold, Nat.one_mul, ↓m_1, ↓m_2, ↓m_3, ↓m_4, ↓m_9, ↓m_1000, nm_ne, nm_ne', nm_inj, nm_lt, nm_le, nm_gt, nm_ge, nm_xor, nm_add, Nat.add_sub_cancel, not_true_eq_false, not_false_eq_true, na_inj, na_le, na_lt, na_add, na_mul, na_and, na_or, na_xor, na_shl, na_shr, na_sub, i_0, i_1, i_2, i_3, i_4, i_5, i_6, i_7, i_8, i_9, i_10, i_12, i_16, i_20, i_21, i_32, i_40, i_60, ol_19, ax_obj_of (hs _ _), iv_rd, sl_19, ol_25, sl_25, i_48, i_57]
      exact loop 9 (i + 1) 0 0 0 _ _ rfl (by omega) (by omega) (by omega) rfl (by omega) hF.symm
    · rw [if_neg (fun hc => h hc.2.symm)] at hF
      exact end' _ _ _ _ _ _ hF.symm rfl 19 (Or.inr rfl)
  · rw [if_neg (fun hc => hin hc.1)] at hF
    refine kk_E_readChairs_0 _ _ _ _ _ ?_
    simp (disch := omega) only [bk_E_readChairs_0, e_cons, e_il, e_ll, e_al, e_lc0, e_lcs, e_ei, e_el, e_er, e_const, e_istore, e_lstore, e_astore, e_iinc, e_s1_0, e_s1_1, e_s1_2, e_s1_3, e_s1_4, e_s1_5, e_s1_6, e_s1_7, e_s1_8, e_s1_9, e_s1_10, e_s2_0, e_s2_1, e_s2_2, e_s2_3, e_s2_4, e_s2_5, e_s2_6, e_s2_7, e_s2_8, e_s2_9, e_s2_10, e_dln, e_dli, e_dlr, e_dll, e_b, e_bd, e_lb, e_lbd, e_lcmp, e_i2l, e_l2i, e_i2b, e_dupi, e_dupr, e_dup2, e_getf, e_at0, e_ats, e_putI, e_putL, e_putR, e_gets, e_alen, e_iald, e_iast, e_bast, e_aast, e_if1, e_if2, e_goto, e_sw, e_iret, e_zret, e_lret, e_vret, e_obji, List.set_cons_zero, List.set_cons_succ, List.set_nil, Option.toList, List.nil_append, List.cons_append, List.length_cons, List.length_nil, true_or, or_true, true_and, and_true, nd_fold, Nat.one_mul, ↓m_1, ↓m_2, ↓m_3, ↓m_4, ↓m_9, ↓m_1000, nm_ne, nm_ne', nm_inj, nm_lt, nm_le, nm_gt, nm_ge, nm_xor, nm_add, Nat.add_sub_cancel, not_true_eq_false, not_false_eq_true, na_inj, na_le, na_lt, na_add, na_mul, na_and, na_or, na_xor, na_shl, na_shr, na_sub, i_0, i_1, i_2, i_3, i_4, i_5, i_6, i_7, i_8, i_9, i_10, i_12, i_16, i_20, i_21, i_32, i_40, i_60, ol_19, ax_obj_of (hs _ _), iv_rd, sl_19, ol_25, sl_25, i_48, i_57]
    refine ⟨fun _ => end' _ _ _ _ _ _ hF.symm rfl 19 (Or.inr rfl), fun h => absurd (show n ≤ i by omega) h⟩
end EC
