/-! reading: MINISTERS, the whole -/
abbrev ms_m : Type := Nat × Nat × Nat × Nat
abbrev ms_RM : Type := List Nat × List Nat × List Nat × List Nat × List Int32 × List Int32 × List Int32 × List Int32
abbrev ms_RR : Type := List Nat × Nat × Nat × Nat × Nat × Nat × List Int32
def ms_rm (T : Nat → Int32) (n i cnt : Nat) : Option ms_m × Nat := if i < n then (match ms_kd (T i) with
  | none => (none, i)
  | some k => if 6 ≤ cnt then (none, i) else (match ms_fig T n (i + 1) 0 7 with
    | none => (none, i + 1)
    | some p => (match ms_fig T n (i + 2) 1 3 with
      | none => (none, i + 2)
      | some q => (match ms_fig T n (i + 3) 0 9 with
        | none => (none, i + 3)
        | some c => (some (k, p, q, c), i + 4))))) else (none, i)
def ms_st (m : ms_m) (r : ms_RM) : ms_RM := (r.1 ++ [m.1], r.2.1 ++ [m.2.2.1], r.2.2.1 ++ [ms_eff m.1 m.2.2.2], ms_ins r.2.2.1 (ms_eff m.1 m.2.2.2) r.2.2.2.1, r.2.2.2.2.1.tail, r.2.2.2.2.2.1.tail, r.2.2.2.2.2.2.1.tail, r.2.2.2.2.2.2.2.tail)
def ms_sr (m : ms_m) (cnt : Nat) (r : ms_RR) : ms_RR := (r.1 ++ [m.2.1], r.2.1 ||| 2 ^ cnt, r.2.2.1, r.2.2.2.1, r.2.2.2.2.1, r.2.2.2.2.2.1, r.2.2.2.2.2.2.tail)
theorem ms_fig_lt {T : Nat → Int32} {n i lo hi d : Nat} (h : ms_fig T n i lo hi = some d) : lo ≤ d ∧ d ≤ hi ∧ i < n := by
  unfold ms_fig at h
  split at h
  · split at h
    · split at h
      · cases h; omega
      · cases h
    · cases h
  · cases h
theorem ms_rm_lt {T : Nat → Int32} {n i cnt j : Nat} {m : ms_m} (h : ms_rm T n i cnt = (some m, j)) : m.1 < 6 ∧ m.2.1 < 8 ∧ 1 ≤ m.2.2.1 ∧ m.2.2.1 < 4 ∧ m.2.2.2 < 10 ∧ cnt < 6 ∧ j ≤ n := by
  unfold ms_rm at h
  split at h
  · split at h
    · cases h
    · next k hk =>
      split at h
      · cases h
      · split at h
        · cases h
        · next p hp =>
          split at h
          · cases h
          · next q hq =>
            split at h
            · cases h
            · next c hc =>
              cases h
              have h1 := ms_kd_lt hk
              have h2 := ms_fig_lt hp
              have h3 := ms_fig_lt hq
              have h4 := ms_fig_lt hc
              exact ⟨h1, by show p < 8; omega, by show 1 ≤ q; omega, by show q < 4; omega, by show c < 10; omega, by omega, by omega⟩
  · cases h
theorem ms_rm_le {T : Nat → Int32} {n i cnt : Nat} (h : i ≤ n) : (ms_rm T n i cnt).2 ≤ n ∧ i ≤ (ms_rm T n i cnt).2 := by
  unfold ms_rm
  split
  · split
    · exact ⟨h, Nat.le_refl _⟩
    · split
      · exact ⟨h, Nat.le_refl _⟩
      · split
        · exact ⟨by omega, by omega⟩
        · next p hp =>
          have h2 := ms_fig_lt hp
          split
          · exact ⟨by omega, by omega⟩
          · next q hq =>
            have h3 := ms_fig_lt hq
            split
            · exact ⟨by omega, by omega⟩
            · next c hc =>
              have h4 := ms_fig_lt hc
              exact ⟨by omega, by omega⟩
  · exact ⟨h, Nat.le_refl _⟩
/-- the reader's rows as they are while it reads: as many of each as MINISTERS were read, places left -/
def rdw (r : ms_RM) (g : ms_RR) : Prop := r.2.1.length = r.1.length ∧ r.2.2.1.length = r.1.length ∧ r.2.2.2.1.length = r.1.length ∧ g.1.length = r.1.length ∧ (∀ i, i < r.2.2.2.1.length → r.2.2.2.1.getD i 0 < r.2.2.2.1.length) ∧ (∀ i, i < r.2.2.1.length → r.2.2.1.getD i 0 < 20) ∧
  r.1.length + r.2.2.2.2.1.length = 6 ∧ r.1.length + r.2.2.2.2.2.1.length = 6 ∧ r.1.length + r.2.2.2.2.2.2.1.length = 6 ∧ r.1.length + r.2.2.2.2.2.2.2.length = 6 ∧ r.1.length + g.2.2.2.2.2.2.length = 6 ∧ g.2.1 < 2 ^ r.1.length
theorem getD_app {l m : List Nat} {i : Nat} : (l ++ m).getD i 0 = if i < l.length then l.getD i 0 else m.getD (i - l.length) 0 := by
  split
  · next h => simp [List.getD_eq_getElem?_getD, List.getElem?_append_left h]
  · next h => simp [List.getD_eq_getElem?_getD, List.getElem?_append_right (Nat.le_of_not_lt h)]
theorem getD_take {l : List Nat} {i k : Nat} (h : i < k) : (l.take k).getD i 0 = l.getD i 0 := by simp [List.getD_eq_getElem?_getD, List.getElem?_take_of_lt h]
theorem getD_drop {l : List Nat} {i k : Nat} : (l.drop k).getD i 0 = l.getD (k + i) 0 := by simp [List.getD_eq_getElem?_getD]
theorem ms_ins_lt {cu eo : List Nat} {c : Nat} (h : ∀ i, i < eo.length → eo.getD i 0 < eo.length) : ∀ i, i < (ms_ins cu c eo).length → (ms_ins cu c eo).getD i 0 < (ms_ins cu c eo).length := by
  intro i hi
  rw [ms_ins_len] at hi ⊢
  have hr := ms_rank_le cu c eo eo.length
  unfold ms_ins
  generalize ms_rank cu c eo eo.length = R at *
  rw [List.append_assoc, getD_app, List.length_take, Nat.min_eq_left hr]
  split
  · next h1 =>
    rw [getD_take h1]
    have := h i (by omega)
    omega
  · next h1 =>
    rw [getD_app]
    split
    · next h2 =>
      simp at h2
      rw [show i - R = 0 by omega]
      simp
    · next h2 =>
      simp at h2
      rw [getD_drop]
      have := h (R + (i - R - 1)) (by omega)
      simp only [List.length_singleton]
      omega
theorem ms_step_wf {m : ms_m} {r : ms_RM} {g : ms_RR} (h : rdw r g) (hm : m.1 < 6 ∧ m.2.2.2 < 10) (hc : r.1.length < 6) : rdw (ms_st m r) (ms_sr m r.1.length g) := by
  obtain ⟨h1, h2, h3, h4, h5, h6, h7, h8, h9, h10, h11, h12⟩ := h
  have he : ms_eff m.1 m.2.2.2 < 20 := by unfold ms_eff; split <;> omega
  refine ⟨by simp [ms_st, h1], by simp [ms_st, h2], by simp [ms_st, ms_ins_len, h3], by simp [ms_st, ms_sr, h4], ms_ins_lt h5, fun i hi => ?_, by simp [ms_st]; omega, by simp [ms_st]; omega, by simp [ms_st]; omega, by simp [ms_st]; omega, by simp [ms_st, ms_sr]; omega, ?_⟩
  · show (r.2.2.1 ++ [ms_eff m.1 m.2.2.2]).getD i 0 < 20
    rw [getD_app]
    split
    · exact h6 i (by assumption)
    · have : i - r.2.2.1.length = 0 := by
        have : i < (r.2.2.1 ++ [ms_eff m.1 m.2.2.2]).length := hi
        simp at this
        omega
      rw [this]
      exact he
  · show g.2.1 ||| 2 ^ r.1.length < 2 ^ (r.1 ++ [m.1]).length
    rw [List.length_append, List.length_singleton]
    exact or_lt (Nat.lt_trans h12 (pow_lt (by omega))) (pow_lt (by omega))
section EM
variable {xs : List Value} {rw : List Int32 × List (List Int32)} {tx : List Int32 × List (List Int32)} {rm : List Nat × List Nat × List Nat × List Nat × List Int32 × List Int32 × List Int32 × List Int32} {rr : List Nat × Nat × Nat × Nat × Nat × Nat × List Int32} {nx : Nat} {mn : List Nat × List Nat × List Nat × List Nat × List Int32 × List Int32 × List Int32 × List Int32} {ru : List Nat × Nat × Nat × Nat × Nat × Nat × List Int32} {nw : List Nat × Nat × Nat × Nat × Nat × Nat × List Int32} {ra : List Nat × Nat × Nat × Nat × Nat × Nat × List Int32} {dd : List Nat × List Int32} {k0 : Bool × List Nat × List Int32} {k1 : Bool × List Nat × List Int32} {k2 : Bool × List Nat × List Int32} {fc : List Int32} {lf : Int32} {td : Int32} {tu : Int64} {tl : Int64} {τ : ax_H}
theorem c_E_min {s n i : Nat} {A : List Int32} {r : ms_RM} {g : ms_RR} (hs : ∀ nx rm rr, ax_get (lay xs rw tx rm rr nx mn ru nw ra dd k0 k1 k2 fc lf td tu tl τ) s = some (21, iv A)) (hn : n ≤ A.length) (hA : A.length ≤ 100) (hi0 : i ≤ n) (hw : rdw r g) :
    ax_ev mi_E_readMinister [.ref 19, .ref s, .int (nI n)] (lay xs rw tx r g i mn ru nw ra dd k0 k1 k2 fc lf td tu tl τ) (some (.int (nI (bz (ms_rm (ig A) n i r.1.length).1.isSome)))) (match (ms_rm (ig A) n i r.1.length).1 with | some m => (lay xs rw tx (ms_st m r) (ms_sr m r.1.length g) (ms_rm (ig A) n i r.1.length).2 mn ru nw ra dd k0 k1 k2 fc lf td tu tl τ) | none => (lay xs rw tx r g (ms_rm (ig A) n i r.1.length).2 mn ru nw ra dd k0 k1 k2 fc lf td tu tl τ)) := by
  refine ax_beg 4 rfl rfl ?_
  simp only [ax_ent, List.replicate, List.cons_append, List.nil_append, List.append_nil]
  obtain ⟨ek, ep, ec, eo, e1, e2, e3, e4⟩ := r
  obtain ⟨gp, gi, gc, gt, gb, gs', gr'⟩ := g
  obtain ⟨h1, h2, h3, h4, h5, h6, h7, h8, h9, h10, h11, h12⟩ := hw
  dsimp only at h1 h2 h3 h4 h5 h6 h7 h8 h9 h10 h11 h12 ⊢
  generalize hF : ms_rm (ig A) n i ek.length = F
  have bad : ∀ (j : Nat) (x3 : Int32), F = (none, j) → ax_go mi_E_readMinister (fun v' H'' => v' = some (.int (nI (bz F.1.isSome))) ∧ H'' = (match F.1 with | some m => (lay xs rw tx (ms_st m (ek, ep, ec, eo, e1, e2, e3, e4)) (ms_sr m ek.length (gp, gi, gc, gt, gb, gs', gr')) F.2 mn ru nw ra dd k0 k1 k2 fc lf td tu tl τ) | none => (lay xs rw tx (ek, ep, ec, eo, e1, e2, e3, e4) (gp, gi, gc, gt, gb, gs', gr') F.2 mn ru nw ra dd k0 k1 k2 fc lf td tu tl τ))) 41 (0, 0) [some (.ref 19), some (.ref s), some (.int (nI n)), some (.int x3), none, none, none] [] (lay xs rw tx (ek, ep, ec, eo, e1, e2, e3, e4) (gp, gi, gc, gt, gb, gs', gr') j mn ru nw ra dd k0 k1 k2 fc lf td tu tl τ) := by
    intro j x3 h1
    rw [h1]
    refine kk_E_readMinister_41 _ _ _ _ _ ?_
    simp (disch := omega) only [bk_E_readMinister_41, e_cons, e_il, e_ll, e_al, e_lc0, e_lcs, e_ei, e_el, e_er, e_const, e_istore, e_lstore, e_astore, e_iinc, e_s1_0, e_s1_1, e_s1_2, e_s1_3, e_s1_4, e_s1_5, e_s1_6, e_s1_7, e_s1_8, e_s1_9, e_s1_10, e_s2_0, e_s2_1, e_s2_2, e_s2_3, e_s2_4, e_s2_5, e_s2_6, e_s2_7, e_s2_8, e_s2_9, e_s2_10, e_dln, e_dli, e_dlr, e_dll, e_b, e_bd, e_lb, e_lbd, e_lcmp, e_i2l, e_l2i, e_i2b, e_dupi, e_dupr, e_dup2, e_getf, e_at0, e_ats, e_putI, e_putL, e_putR, e_gets, e_alen, e_iald, e_iast, e_bast, e_aast, e_if1, e_if2, e_goto, e_sw, e_iret, e_zret, e_lret, e_vret, e_obji, List.set_cons_zero, List.set_cons_succ, List.set_nil, Option.toList, List.nil_append, List.cons_append, List.length_cons, List.length_nil, true_or, or_true, true_and, and_true, nd_fold, Nat.one_mul, ↓m_1, ↓m_2, ↓m_3, ↓m_4, ↓m_9, ↓m_1000, nm_ne, nm_ne', nm_inj, nm_lt, nm_le, nm_gt, nm_ge, nm_xor, nm_add, Nat.add_sub_cancel, not_true_eq_false, not_false_eq_true, na_inj, na_le, na_lt, na_add, na_mul, na_and, na_or, na_xor, na_shl, na_shr, na_sub, i_0, i_1, i_2, i_3, i_4, i_5, i_6, i_7, i_8, i_9, i_10, i_12, i_16, i_20, i_21, i_32, i_40, i_60, ol_19, ol_20, ax_obj_of (hs _ _ _), iv_rd, sl_19]
    rfl
  have bad7 : ∀ (j : Nat) (x3 x4 x5 : Int32), F = (none, j) → ax_go mi_E_readMinister (fun v' H'' => v' = some (.int (nI (bz F.1.isSome))) ∧ H'' = (match F.1 with | some m => (lay xs rw tx (ms_st m (ek, ep, ec, eo, e1, e2, e3, e4)) (ms_sr m ek.length (gp, gi, gc, gt, gb, gs', gr')) F.2 mn ru nw ra dd k0 k1 k2 fc lf td tu tl τ) | none => (lay xs rw tx (ek, ep, ec, eo, e1, e2, e3, e4) (gp, gi, gc, gt, gb, gs', gr') F.2 mn ru nw ra dd k0 k1 k2 fc lf td tu tl τ))) 107 (0, 0) [some (.ref 19), some (.ref s), some (.int (nI n)), some (.int x3), some (.int x4), some (.int x5), none] [.int (nm 9)] (lay xs rw tx (ek, ep, ec, eo, e1, e2, e3, e4) (gp, gi, gc, gt, gb, gs', gr') j mn ru nw ra dd k0 k1 k2 fc lf td tu tl τ) := by
    intro j x3 x4 x5 h1
    rw [h1]
    refine kk_E_readMinister_107 _ _ _ _ _ ?_
    simp (disch := omega) only [bk_E_readMinister_107, e_cons, e_il, e_ll, e_al, e_lc0, e_lcs, e_ei, e_el, e_er, e_const, e_istore, e_lstore, e_astore, e_iinc, e_s1_0, e_s1_1, e_s1_2, e_s1_3, e_s1_4, e_s1_5, e_s1_6, e_s1_7, e_s1_8, e_s1_9, e_s1_10, e_s2_0, e_s2_1, e_s2_2, e_s2_3, e_s2_4, e_s2_5, e_s2_6, e_s2_7, e_s2_8, e_s2_9, e_s2_10, e_dln, e_dli, e_dlr, e_dll, e_b, e_bd, e_lb, e_lbd, e_lcmp, e_i2l, e_l2i, e_i2b, e_dupi, e_dupr, e_dup2, e_getf, e_at0, e_ats, e_putI, e_putL, e_putR, e_gets, e_alen, e_iald, e_iast, e_bast, e_aast, e_if1, e_if2, e_goto, e_sw, e_iret, e_zret, e_lret, e_vret, e_obji, List.set_cons_zero, List.set_cons_succ, List.set_nil, Option.toList, List.nil_append, List.cons_append, List.length_cons, List.length_nil, true_or, or_true, true_and, and_true, nd_fold, Nat.one_mul, ↓m_1, ↓m_2, ↓m_3, ↓m_4, ↓m_9, ↓m_1000, nm_ne, nm_ne', nm_inj, nm_lt, nm_le, nm_gt, nm_ge, nm_xor, nm_add, Nat.add_sub_cancel, not_true_eq_false, not_false_eq_true, na_inj, na_le, na_lt, na_add, na_mul, na_and, na_or, na_xor, na_shl, na_shr, na_sub, i_0, i_1, i_2, i_3, i_4, i_5, i_6, i_7, i_8, i_9, i_10, i_12, i_16, i_20, i_21, i_32, i_40, i_60, ol_19, ol_20, ax_obj_of (hs _ _ _), iv_rd, sl_19]
    exact ⟨fun h => h.elim, fun _ => rfl⟩
  have bad4 : ∀ (j : Nat) (x3 x4 : Int32), F = (none, j) → ax_go mi_E_readMinister (fun v' H'' => v' = some (.int (nI (bz F.1.isSome))) ∧ H'' = (match F.1 with | some m => (lay xs rw tx (ms_st m (ek, ep, ec, eo, e1, e2, e3, e4)) (ms_sr m ek.length (gp, gi, gc, gt, gb, gs', gr')) F.2 mn ru nw ra dd k0 k1 k2 fc lf td tu tl τ) | none => (lay xs rw tx (ek, ep, ec, eo, e1, e2, e3, e4) (gp, gi, gc, gt, gb, gs', gr') F.2 mn ru nw ra dd k0 k1 k2 fc lf td tu tl τ))) 84 (0, 0) [some (.ref 19), some (.ref s), some (.int (nI n)), some (.int x3), some (.int x4), none, none] [.int (nm 9)] (lay xs rw tx (ek, ep, ec, eo, e1, e2, e3, e4) (gp, gi, gc, gt, gb, gs', gr') j mn ru nw ra dd k0 k1 k2 fc lf td tu tl τ) := by
    intro j x3 x4 h1
    refine kk_E_readMinister_84 _ _ _ _ _ ?_
    simp (disch := omega) only [bk_E_readMinister_84, e_cons, e_il, e_ll, e_al, e_lc0, e_lcs, e_ei, e_el, e_er, e_const, e_istore, e_lstore, e_astore, e_iinc, e_s1_0, e_s1_1, e_s1_2, e_s1_3, e_s1_4, e_s1_5, e_s1_6, e_s1_7, e_s1_8, e_s1_9, e_s1_10, e_s2_0, e_s2_1, e_s2_2, e_s2_3, e_s2_4, e_s2_5, e_s2_6, e_s2_7, e_s2_8, e_s2_9, e_s2_10, e_dln, e_dli, e_dlr, e_dll, e_b, e_bd, e_lb, e_lbd, e_lcmp, e_i2l, e_l2i, e_i2b, e_dupi, e_dupr, e_dup2, e_getf, e_at0, e_ats, e_putI, e_putL, e_putR, e_gets, e_alen, e_iald, e_iast, e_bast, e_aast, e_if1, e_if2, e_goto, e_sw, e_iret, e_zret, e_lret, e_vret, e_obji, List.set_cons_zero, List.set_cons_succ, List.set_nil, Option.toList, List.nil_append, List.cons_append, List.length_cons, List.length_nil, true_or, or_true, true_and, and_true, nd_fold, Nat.one_mul, ↓m_1, ↓m_2, ↓m_3, ↓m_4, ↓m_9, ↓m_1000, nm_ne, nm_ne', nm_inj, nm_lt, nm_le, nm_gt, nm_ge, nm_xor, nm_add, Nat.add_sub_cancel, not_true_eq_false, not_false_eq_true, na_inj, na_le, na_lt, na_add, na_mul, na_and, na_or, na_xor, na_shl, na_shr, na_sub, i_0, i_1, i_2, i_3, i_4, i_5, i_6, i_7, i_8, i_9, i_10, i_12, i_16, i_20, i_21, i_32, i_40, i_60, ol_19, ol_20, ax_obj_of (hs _ _ _), iv_rd, sl_19]
    exact ⟨fun h => h.elim, fun _ => bad7 j x3 x4 _ h1⟩
  unfold ms_rm at hF
  by_cases hin : i < n
  · rw [if_pos hin] at hF
    refine kk_E_readMinister_0 _ _ _ _ _ ?_
    simp (disch := omega) only [bk_E_readMinister_0, e_cons, e_il, e_ll, e_al, e_lc0, e_lcs, e_ei, e_el, e_er, e_const, e_istore, e_lstore, e_astore, e_iinc, e_s1_0, e_s1_1, e_s1_2, e_s1_3, e_s1_4, e_s1_5, e_s1_6, e_s1_7, e_s1_8, e_s1_9, e_s1_10, e_s2_0, e_s2_1, e_s2_2, e_s2_3, e_s2_4, e_s2_5, e_s2_6, e_s2_7, e_s2_8, e_s2_9, e_s2_10, e_dln, e_dli, e_dlr, e_dll, e_b, e_bd, e_lb, e_lbd, e_lcmp, e_i2l, e_l2i, e_i2b, e_dupi, e_dupr, e_dup2, e_getf, e_at0, e_ats, e_putI, e_putL, e_putR, e_gets, e_alen, e_iald, e_iast, e_bast, e_aast, e_if1, e_if2, e_goto, e_sw, e_iret, e_zret, e_lret, e_vret, e_obji, List.set_cons_zero, List.set_cons_succ, List.set_nil, Option.toList, List.nil_append, List.cons_append, List.length_cons, List.length_nil, true_or, or_true, true_and, and_true, nd_fold, Nat.one_mul, ↓m_1, ↓m_2, ↓m_3, ↓m_4, ↓m_9, ↓m_1000, nm_ne, nm_ne', nm_inj, nm_lt, nm_le, nm_gt, nm_ge, nm_xor, nm_add, Nat.add_sub_cancel, not_true_eq_false, not_false_eq_true, na_inj, na_le, na_lt, na_add, na_mul, na_and, na_or, na_xor, na_shl, na_shr, na_sub, i_0, i_1, i_2, i_3, i_4, i_5, i_6, i_7, i_8, i_9, i_10, i_12, i_16, i_20, i_21, i_32, i_40, i_60, ol_19, ol_20, ax_obj_of (hs _ _ _), iv_rd, sl_19]
    refine ⟨fun h => absurd h (by omega), fun _ => ?_⟩
    refine k_call c_E_kindOf rfl rfl rfl ?_
    simp (disch := omega) only [e_cons, e_il, e_ll, e_al, e_lc0, e_lcs, e_ei, e_el, e_er, e_const, e_istore, e_lstore, e_astore, e_iinc, e_s1_0, e_s1_1, e_s1_2, e_s1_3, e_s1_4, e_s1_5, e_s1_6, e_s1_7, e_s1_8, e_s1_9, e_s1_10, e_s2_0, e_s2_1, e_s2_2, e_s2_3, e_s2_4, e_s2_5, e_s2_6, e_s2_7, e_s2_8, e_s2_9, e_s2_10, e_dln, e_dli, e_dlr, e_dll, e_b, e_bd, e_lb, e_lbd, e_lcmp, e_i2l, e_l2i, e_i2b, e_dupi, e_dupr, e_dup2, e_getf, e_at0, e_ats, e_putI, e_putL, e_putR, e_gets, e_alen, e_iald, e_iast, e_bast, e_aast, e_if1, e_if2, e_goto, e_sw, e_iret, e_zret, e_lret, e_vret, e_obji, List.set_cons_zero, List.set_cons_succ, List.set_nil, Option.toList, List.nil_append, List.cons_append, List.length_cons, List.length_nil, true_or, or_true, true_and, and_true, nd_fold, Nat.one_mul, ↓m_1, ↓m_2, ↓m_3, ↓m_4, ↓m_9, ↓m_1000, nm_ne, nm_ne', nm_inj, nm_lt, nm_le, nm_gt, nm_ge, nm_xor, nm_add, Nat.add_sub_cancel, not_true_eq_false, not_false_eq_true, na_inj, na_le, na_lt, na_add, na_mul, na_and, na_or, na_xor, na_shl, na_shr, na_sub, i_0, i_1, i_2, i_3, i_4, i_5, i_6, i_7, i_8, i_9, i_10, i_12, i_16, i_20, i_21, i_32, i_40, i_60, ol_19, ol_20, ax_obj_of (hs _ _ _), iv_rd, sl_19]
    cases hk : ms_kd (ig A i) with
    | none =>
      rw [hk] at hF
      simp only [oN]
      refine kk_E_readMinister_22 _ _ _ _ _ ?_
      simp (disch := omega) only [bk_E_readMinister_22, e_cons, e_il, e_ll, e_al, e_lc0, e_lcs, e_ei, e_el, e_er, e_const, e_istore, e_lstore, e_astore, e_iinc, e_s1_0, e_s1_1, e_s1_2, e_s1_3, e_s1_4, e_s1_5, e_s1_6, e_s1_7, e_s1_8, e_s1_9, e_s1_10, e_s2_0, e_s2_1, e_s2_2, e_s2_3, e_s2_4, e_s2_5, e_s2_6, e_s2_7, e_s2_8, e_s2_9, e_s2_10, e_dln, e_dli, e_dlr, e_dll, e_b, e_bd, e_lb, e_lbd, e_lcmp, e_i2l, e_l2i, e_i2b, e_dupi, e_dupr, e_dup2, e_getf, e_at0, e_ats, e_putI, e_putL, e_putR, e_gets, e_alen, e_iald, e_iast, e_bast, e_aast, e_if1, e_if2, e_goto, e_sw, e_iret, e_zret, e_lret, e_vret, e_obji, List.set_cons_zero, List.set_cons_succ, List.set_nil, Option.toList, List.nil_append, List.cons_append, List.length_cons, List.length_nil, true_or, or_true, true_and, and_true, nd_fold, Nat.one_mul, ↓m_1, ↓m_2, ↓m_3, ↓m_4, ↓m_9, ↓m_1000, nm_ne, nm_ne', nm_inj, nm_lt, nm_le, nm_gt, nm_ge, nm_xor, nm_add, Nat.add_sub_cancel, not_true_eq_false, not_false_eq_true, na_inj, na_le, na_lt, na_add, na_mul, na_and, na_or, na_xor, na_shl, na_shr, na_sub, i_0, i_1, i_2, i_3, i_4, i_5, i_6, i_7, i_8, i_9, i_10, i_12, i_16, i_20, i_21, i_32, i_40, i_60, ol_19, ol_20, ax_obj_of (hs _ _ _), iv_rd, sl_19]
      exact ⟨fun _ => bad i _ hF.symm, fun h => h.elim⟩
    | some k =>
      have hk6 := ms_kd_lt hk
      rw [hk] at hF
      dsimp only at hF
      simp only [oN]
      refine kk_E_readMinister_22 _ _ _ _ _ ?_
      simp (disch := omega) only [bk_E_readMinister_22, e_cons, e_il, e_ll, e_al, e_lc0, e_lcs, e_ei, e_el, e_er, e_const, e_istore, e_lstore, e_astore, e_iinc, e_s1_0, e_s1_1, e_s1_2, e_s1_3, e_s1_4, e_s1_5, e_s1_6, e_s1_7, e_s1_8, e_s1_9, e_s1_10, e_s2_0, e_s2_1, e_s2_2, e_s2_3, e_s2_4, e_s2_5, e_s2_6, e_s2_7, e_s2_8, e_s2_9, e_s2_10, e_dln, e_dli, e_dlr, e_dll, e_b, e_bd, e_lb, e_lbd, e_lcmp, e_i2l, e_l2i, e_i2b, e_dupi, e_dupr, e_dup2, e_getf, e_at0, e_ats, e_putI, e_putL, e_putR, e_gets, e_alen, e_iald, e_iast, e_bast, e_aast, e_if1, e_if2, e_goto, e_sw, e_iret, e_zret, e_lret, e_vret, e_obji, List.set_cons_zero, List.set_cons_succ, List.set_nil, Option.toList, List.nil_append, List.cons_append, List.length_cons, List.length_nil, true_or, or_true, true_and, and_true, nd_fold, Nat.one_mul, ↓m_1, ↓m_2, ↓m_3, ↓m_4, ↓m_9, ↓m_1000, nm_ne, nm_ne', nm_inj, nm_lt, nm_le, nm_gt, nm_ge, nm_xor, nm_add, Nat.add_sub_cancel, not_true_eq_false, not_false_eq_true, na_inj, na_le, na_lt, na_add, na_mul, na_and, na_or, na_xor, na_shl, na_shr, na_sub, i_0, i_1, i_2, i_3, i_4, i_5, i_6, i_7, i_8, i_9, i_10, i_12, i_16, i_20, i_21, i_32, i_40, i_60, ol_19, ol_20, ax_obj_of (hs _ _ _), iv_rd, sl_19]
      refine ⟨fun h => h.elim, fun _ => ?_⟩
      by_cases hc : 6 ≤ ek.length
      · rw [if_pos hc] at hF
        exact ⟨fun h => absurd h (by omega), fun _ => bad i _ hF.symm⟩
      · rw [if_neg hc] at hF
        refine ⟨fun _ => ?_, fun h => absurd (show ek.length < 6 by omega) h⟩
        refine kk_E_readMinister_43 _ _ _ _ _ ?_
        simp (disch := omega) only [bk_E_readMinister_43, e_cons, e_il, e_ll, e_al, e_lc0, e_lcs, e_ei, e_el, e_er, e_const, e_istore, e_lstore, e_astore, e_iinc, e_s1_0, e_s1_1, e_s1_2, e_s1_3, e_s1_4, e_s1_5, e_s1_6, e_s1_7, e_s1_8, e_s1_9, e_s1_10, e_s2_0, e_s2_1, e_s2_2, e_s2_3, e_s2_4, e_s2_5, e_s2_6, e_s2_7, e_s2_8, e_s2_9, e_s2_10, e_dln, e_dli, e_dlr, e_dll, e_b, e_bd, e_lb, e_lbd, e_lcmp, e_i2l, e_l2i, e_i2b, e_dupi, e_dupr, e_dup2, e_getf, e_at0, e_ats, e_putI, e_putL, e_putR, e_gets, e_alen, e_iald, e_iast, e_bast, e_aast, e_if1, e_if2, e_goto, e_sw, e_iret, e_zret, e_lret, e_vret, e_obji, List.set_cons_zero, List.set_cons_succ, List.set_nil, Option.toList, List.nil_append, List.cons_append, List.length_cons, List.length_nil, true_or, or_true, true_and, and_true, nd_fold, Nat.one_mul, ↓m_1, ↓m_2, ↓m_3, ↓m_4, ↓m_9, ↓m_1000, nm_ne, nm_ne', nm_inj, nm_lt, nm_le, nm_gt, nm_ge, nm_xor, nm_add, Nat.add_sub_cancel, not_true_eq_false, not_false_eq_true, na_inj, na_le, na_lt, na_add, na_mul, na_and, na_or, na_xor, na_shl, na_shr, na_sub, i_0, i_1, i_2, i_3, i_4, i_5, i_6, i_7, i_8, i_9, i_10, i_12, i_16, i_20, i_21, i_32, i_40, i_60, ol_19, ol_20, ax_obj_of (hs _ _ _), iv_rd, sl_19]
        refine k_callV gl_19 (c_E_fig (lo := 0) (hi := 7) (fun _ => hs _ _ _) hn hA (show i + 1 ≤ n by omega) (by omega) (by omega)) rfl rfl rfl ?_
        simp (disch := omega) only [e_cons, e_il, e_ll, e_al, e_lc0, e_lcs, e_ei, e_el, e_er, e_const, e_istore, e_lstore, e_astore, e_iinc, e_s1_0, e_s1_1, e_s1_2, e_s1_3, e_s1_4, e_s1_5, e_s1_6, e_s1_7, e_s1_8, e_s1_9, e_s1_10, e_s2_0, e_s2_1, e_s2_2, e_s2_3, e_s2_4, e_s2_5, e_s2_6, e_s2_7, e_s2_8, e_s2_9, e_s2_10, e_dln, e_dli, e_dlr, e_dll, e_b, e_bd, e_lb, e_lbd, e_lcmp, e_i2l, e_l2i, e_i2b, e_dupi, e_dupr, e_dup2, e_getf, e_at0, e_ats, e_putI, e_putL, e_putR, e_gets, e_alen, e_iald, e_iast, e_bast, e_aast, e_if1, e_if2, e_goto, e_sw, e_iret, e_zret, e_lret, e_vret, e_obji, List.set_cons_zero, List.set_cons_succ, List.set_nil, Option.toList, List.nil_append, List.cons_append, List.length_cons, List.length_nil, true_or, or_true, true_and, and_true, nd_fold, Nat.one_mul, ↓m_1, ↓m_2, ↓m_3, ↓m_4, ↓m_9, ↓m_1000, nm_ne, nm_ne', nm_inj, nm_lt, nm_le, nm_gt, nm_ge, nm_xor, nm_add, Nat.add_sub_cancel, not_true_eq_false, not_false_eq_true, na_inj, na_le, na_lt, na_add, na_mul, na_and, na_or, na_xor, na_shl, na_shr, na_sub, i_0, i_1, i_2, i_3, i_4, i_5, i_6, i_7, i_8, i_9, i_10, i_12, i_16, i_20, i_21, i_32, i_40, i_60, ol_19, ol_20, ax_obj_of (hs _ _ _), iv_rd, sl_19]
        cases hf : ms_fig (ig A) n (i + 1) 0 7 with
        | none =>
          rw [hf] at hF
          simp only [oN, Option.isSome_some, Option.isSome_none, if_true, ite_true, Bool.false_eq_true, if_false, ite_false]
          exact ⟨fun h => absurd trivial h, fun _ => bad4 (i + 1) _ _ hF.symm⟩
        | some p =>
          have hp := ms_fig_lt hf
          rw [hf] at hF
          dsimp only at hF
          simp only [oN, Option.isSome_some, Option.isSome_none, if_true, ite_true, Bool.false_eq_true, if_false, ite_false]
          refine ⟨fun _ => ?_, fun h => absurd (by simp (disch := omega) only [nm_ne, not_false_eq_true]) h⟩
          refine kk_E_readMinister_76 _ _ _ _ _ ?_
          simp (disch := omega) only [bk_E_readMinister_76, e_cons, e_il, e_ll, e_al, e_lc0, e_lcs, e_ei, e_el, e_er, e_const, e_istore, e_lstore, e_astore, e_iinc, e_s1_0, e_s1_1, e_s1_2, e_s1_3, e_s1_4, e_s1_5, e_s1_6, e_s1_7, e_s1_8, e_s1_9, e_s1_10, e_s2_0, e_s2_1, e_s2_2, e_s2_3, e_s2_4, e_s2_5, e_s2_6, e_s2_7, e_s2_8, e_s2_9, e_s2_10, e_dln, e_dli, e_dlr, e_dll, e_b, e_bd, e_lb, e_lbd, e_lcmp, e_i2l, e_l2i, e_i2b, e_dupi, e_dupr, e_dup2, e_getf, e_at0, e_ats, e_putI, e_putL, e_putR, e_gets, e_alen, e_iald, e_iast, e_bast, e_aast, e_if1, e_if2, e_goto, e_sw, e_iret, e_zret, e_lret, e_vret, e_obji, List.set_cons_zero, List.set_cons_succ, List.set_nil, Option.toList, List.nil_append, List.cons_append, List.length_cons, List.length_nil, true_or, or_true, true_and, and_true, nd_fold, Nat.one_mul, ↓m_1, ↓m_2, ↓m_3, ↓m_4, ↓m_9, ↓m_1000, nm_ne, nm_ne', nm_inj, nm_lt, nm_le, nm_gt, nm_ge, nm_xor, nm_add, Nat.add_sub_cancel, not_true_eq_false, not_false_eq_true, na_inj, na_le, na_lt, na_add, na_mul, na_and, na_or, na_xor, na_shl, na_shr, na_sub, i_0, i_1, i_2, i_3, i_4, i_5, i_6, i_7, i_8, i_9, i_10, i_12, i_16, i_20, i_21, i_32, i_40, i_60, ol_19, ol_20, ax_obj_of (hs _ _ _), iv_rd, sl_19]
          refine k_callV gl_19 (c_E_fig (lo := 1) (hi := 3) (fun _ => hs _ _ _) hn hA (show i + 1 + 1 ≤ n by omega) (by omega) (by omega)) rfl rfl rfl ?_
          simp (disch := omega) only [e_cons, e_il, e_ll, e_al, e_lc0, e_lcs, e_ei, e_el, e_er, e_const, e_istore, e_lstore, e_astore, e_iinc, e_s1_0, e_s1_1, e_s1_2, e_s1_3, e_s1_4, e_s1_5, e_s1_6, e_s1_7, e_s1_8, e_s1_9, e_s1_10, e_s2_0, e_s2_1, e_s2_2, e_s2_3, e_s2_4, e_s2_5, e_s2_6, e_s2_7, e_s2_8, e_s2_9, e_s2_10, e_dln, e_dli, e_dlr, e_dll, e_b, e_bd, e_lb, e_lbd, e_lcmp, e_i2l, e_l2i, e_i2b, e_dupi, e_dupr, e_dup2, e_getf, e_at0, e_ats, e_putI, e_putL, e_putR, e_gets, e_alen, e_iald, e_iast, e_bast, e_aast, e_if1, e_if2, e_goto, e_sw, e_iret, e_zret, e_lret, e_vret, e_obji, List.set_cons_zero, List.set_cons_succ, List.set_nil, Option.toList, List.nil_append, List.cons_append, List.length_cons, List.length_nil, true_or, or_true, true_and, and_true, nd_fold, Nat.one_mul, ↓m_1, ↓m_2, ↓m_3, ↓m_4, ↓m_9, ↓m_1000, nm_ne, nm_ne', nm_inj, nm_lt, nm_le, nm_gt, nm_ge, nm_xor, nm_add, Nat.add_sub_cancel, not_true_eq_false, not_false_eq_true, na_inj, na_le, na_lt, na_add, na_mul, na_and, na_or, na_xor, na_shl, na_shr, na_sub, i_0, i_1, i_2, i_3, i_4, i_5, i_6, i_7, i_8, i_9, i_10, i_12, i_16, i_20, i_21, i_32, i_40, i_60, ol_19, ol_20, ax_obj_of (hs _ _ _), iv_rd, sl_19]
          cases hg : ms_fig (ig A) n (i + 2) 1 3 with
          | none =>
            rw [hg] at hF
            simp only [oN, Option.isSome_some, Option.isSome_none, if_true, ite_true, Bool.false_eq_true, if_false, ite_false]
            exact bad4 (i + 2) _ _ hF.symm
          | some q =>
            have hq := ms_fig_lt hg
            rw [hg] at hF
            dsimp only at hF
            simp only [oN, Option.isSome_some, Option.isSome_none, if_true, ite_true, Bool.false_eq_true, if_false, ite_false]
            refine kk_E_readMinister_84 _ _ _ _ _ ?_
            simp (disch := omega) only [bk_E_readMinister_84, e_cons, e_il, e_ll, e_al, e_lc0, e_lcs, e_ei, e_el, e_er, e_const, e_istore, e_lstore, e_astore, e_iinc, e_s1_0, e_s1_1, e_s1_2, e_s1_3, e_s1_4, e_s1_5, e_s1_6, e_s1_7, e_s1_8, e_s1_9, e_s1_10, e_s2_0, e_s2_1, e_s2_2, e_s2_3, e_s2_4, e_s2_5, e_s2_6, e_s2_7, e_s2_8, e_s2_9, e_s2_10, e_dln, e_dli, e_dlr, e_dll, e_b, e_bd, e_lb, e_lbd, e_lcmp, e_i2l, e_l2i, e_i2b, e_dupi, e_dupr, e_dup2, e_getf, e_at0, e_ats, e_putI, e_putL, e_putR, e_gets, e_alen, e_iald, e_iast, e_bast, e_aast, e_if1, e_if2, e_goto, e_sw, e_iret, e_zret, e_lret, e_vret, e_obji, List.set_cons_zero, List.set_cons_succ, List.set_nil, Option.toList, List.nil_append, List.cons_append, List.length_cons, List.length_nil, true_or, or_true, true_and, and_true, nd_fold, Nat.one_mul, ↓m_1, ↓m_2, ↓m_3, ↓m_4, ↓m_9, ↓m_1000, nm_ne, nm_ne', nm_inj, nm_lt, nm_le, nm_gt, nm_ge, nm_xor, nm_add, Nat.add_sub_cancel, not_true_eq_false, not_false_eq_true, na_inj, na_le, na_lt, na_add, na_mul, na_and, na_or, na_xor, na_shl, na_shr, na_sub, i_0, i_1, i_2, i_3, i_4, i_5, i_6, i_7, i_8, i_9, i_10, i_12, i_16, i_20, i_21, i_32, i_40, i_60, ol_19, ol_20, ax_obj_of (hs _ _ _), iv_rd, sl_19]
            refine ⟨fun _ => ?_, fun h => h.elim⟩
            refine kk_E_readMinister_98 _ _ _ _ _ ?_
            simp (disch := omega) only [bk_E_readMinister_98, e_cons, e_il, e_ll, e_al, e_lc0, e_lcs, e_ei, e_el, e_er, e_const, e_istore, e_lstore, e_astore, e_iinc, e_s1_0, e_s1_1, e_s1_2, e_s1_3, e_s1_4, e_s1_5, e_s1_6, e_s1_7, e_s1_8, e_s1_9, e_s1_10, e_s2_0, e_s2_1, e_s2_2, e_s2_3, e_s2_4, e_s2_5, e_s2_6, e_s2_7, e_s2_8, e_s2_9, e_s2_10, e_dln, e_dli, e_dlr, e_dll, e_b, e_bd, e_lb, e_lbd, e_lcmp, e_i2l, e_l2i, e_i2b, e_dupi, e_dupr, e_dup2, e_getf, e_at0, e_ats, e_putI, e_putL, e_putR, e_gets, e_alen, e_iald, e_iast, e_bast, e_aast, e_if1, e_if2, e_goto, e_sw, e_iret, e_zret, e_lret, e_vret, e_obji, List.set_cons_zero, List.set_cons_succ, List.set_nil, Option.toList, List.nil_append, List.cons_append, List.length_cons, List.length_nil, true_or, or_true, true_and, and_true, nd_fold, Nat.one_mul, ↓m_1, ↓m_2, ↓m_3, ↓m_4, ↓m_9, ↓m_1000, nm_ne, nm_ne', nm_inj, nm_lt, nm_le, nm_gt, nm_ge, nm_xor, nm_add, Nat.add_sub_cancel, not_true_eq_false, not_false_eq_true, na_inj, na_le, na_lt, na_add, na_mul, na_and, na_or, na_xor, na_shl, na_shr, na_sub, i_0, i_1, i_2, i_3, i_4, i_5, i_6, i_7, i_8, i_9, i_10, i_12, i_16, i_20, i_21, i_32, i_40, i_60, ol_19, ol_20, ax_obj_of (hs _ _ _), iv_rd, sl_19]
            refine k_callV gl_19 (c_E_fig (lo := 0) (hi := 9) (fun _ => hs _ _ _) hn hA (show i + 1 + 1 + 1 ≤ n by omega) (by omega) (by omega)) rfl rfl rfl ?_
            simp (disch := omega) only [e_cons, e_il, e_ll, e_al, e_lc0, e_lcs, e_ei, e_el, e_er, e_const, e_istore, e_lstore, e_astore, e_iinc, e_s1_0, e_s1_1, e_s1_2, e_s1_3, e_s1_4, e_s1_5, e_s1_6, e_s1_7, e_s1_8, e_s1_9, e_s1_10, e_s2_0, e_s2_1, e_s2_2, e_s2_3, e_s2_4, e_s2_5, e_s2_6, e_s2_7, e_s2_8, e_s2_9, e_s2_10, e_dln, e_dli, e_dlr, e_dll, e_b, e_bd, e_lb, e_lbd, e_lcmp, e_i2l, e_l2i, e_i2b, e_dupi, e_dupr, e_dup2, e_getf, e_at0, e_ats, e_putI, e_putL, e_putR, e_gets, e_alen, e_iald, e_iast, e_bast, e_aast, e_if1, e_if2, e_goto, e_sw, e_iret, e_zret, e_lret, e_vret, e_obji, List.set_cons_zero, List.set_cons_succ, List.set_nil, Option.toList, List.nil_append, List.cons_append, List.length_cons, List.length_nil, true_or, or_true, true_and, and_true, nd_fold, Nat.one_mul, ↓m_1, ↓m_2, ↓m_3, ↓m_4, ↓m_9, ↓m_1000, nm_ne, nm_ne', nm_inj, nm_lt, nm_le, nm_gt, nm_ge, nm_xor, nm_add, Nat.add_sub_cancel, not_true_eq_false, not_false_eq_true, na_inj, na_le, na_lt, na_add, na_mul, na_and, na_or, na_xor, na_shl, na_shr, na_sub, i_0, i_1, i_2, i_3, i_4, i_5, i_6, i_7, i_8, i_9, i_10, i_12, i_16, i_20, i_21, i_32, i_40, i_60, ol_19, ol_20, ax_obj_of (hs _ _ _), iv_rd, sl_19]
            cases hc9 : ms_fig (ig A) n (i + 3) 0 9 with
            | none =>
              rw [hc9] at hF
              try rw [show ms_fig (ig A) n (i + 1 + 1 + 1) 0 9 = none from hc9]
              simp only [oN, Option.isSome_some, Option.isSome_none, if_true, ite_true, Bool.false_eq_true, if_false, ite_false]
              exact bad7 (i + 3) _ _ _ hF.symm
            | some c =>
              have hc := ms_fig_lt hc9
              rw [hc9] at hF
              dsimp only at hF
              try rw [show ms_fig (ig A) n (i + 1 + 1 + 1) 0 9 = some c from hc9]
              simp only [oN, Option.isSome_some, Option.isSome_none, if_true, ite_true, Bool.false_eq_true, if_false, ite_false]
              subst hF
              refine kk_E_readMinister_107 _ _ _ _ _ ?_
              simp (disch := omega) only [bk_E_readMinister_107, e_cons, e_il, e_ll, e_al, e_lc0, e_lcs, e_ei, e_el, e_er, e_const, e_istore, e_lstore, e_astore, e_iinc, e_s1_0, e_s1_1, e_s1_2, e_s1_3, e_s1_4, e_s1_5, e_s1_6, e_s1_7, e_s1_8, e_s1_9, e_s1_10, e_s2_0, e_s2_1, e_s2_2, e_s2_3, e_s2_4, e_s2_5, e_s2_6, e_s2_7, e_s2_8, e_s2_9, e_s2_10, e_dln, e_dli, e_dlr, e_dll, e_b, e_bd, e_lb, e_lbd, e_lcmp, e_i2l, e_l2i, e_i2b, e_dupi, e_dupr, e_dup2, e_getf, e_at0, e_ats, e_putI, e_putL, e_putR, e_gets, e_alen, e_iald, e_iast, e_bast, e_aast, e_if1, e_if2, e_goto, e_sw, e_iret, e_zret, e_lret, e_vret, e_obji, List.set_cons_zero, List.set_cons_succ, List.set_nil, Option.toList, List.nil_append, List.cons_append, List.length_cons, List.length_nil, true_or, or_true, true_and, and_true, nd_fold, Nat.one_mul, ↓m_1, ↓m_2, ↓m_3, ↓m_4, ↓m_9, ↓m_1000, nm_ne, nm_ne', nm_inj, nm_lt, nm_le, nm_gt, nm_ge, nm_xor, nm_add, Nat.add_sub_cancel, not_true_eq_false, not_false_eq_true, na_inj, na_le, na_lt, na_add, na_mul, na_and, na_or, na_xor, na_shl, na_shr, na_sub, i_0, i_1, i_2, i_3, i_4, i_5, i_6, i_7, i_8, i_9, i_10, i_12, i_16, i_20, i_21, i_32, i_40, i_60, ol_19, ol_20, ax_obj_of (hs _ _ _), iv_rd, sl_19]
              refine ⟨fun _ => ?_, fun h => h.elim⟩
              match e1, e2, e3, e4, gr', h7, h8, h9, h10, h11 with
              | x1 :: r1, x2 :: r2, x3 :: r3, x4 :: r4, x5 :: r5, h7, h8, h9, h10, h11 =>
                have kw : ∀ (P : Nat → Prop), ax_wr (gv gp (x5 :: r5)) (nI ek.length) P = P ek.length := by
                  intro P
                  rw [← h4]
                  exact gvx_wr (by omega)
                have ks : ∀ v, (gv gp (x5 :: r5)).set ek.length (.int (nI v)) = gv (gp ++ [v]) r5 := fun v => by rw [← h4]; exact gvx_set
                refine kk_E_readMinister_118 _ _ _ _ _ ?_
                simp (disch := omega) only [bk_E_readMinister_118, e_cons, e_il, e_ll, e_al, e_lc0, e_lcs, e_ei, e_el, e_er, e_const, e_istore, e_lstore, e_astore, e_iinc, e_s1_0, e_s1_1, e_s1_2, e_s1_3, e_s1_4, e_s1_5, e_s1_6, e_s1_7, e_s1_8, e_s1_9, e_s1_10, e_s2_0, e_s2_1, e_s2_2, e_s2_3, e_s2_4, e_s2_5, e_s2_6, e_s2_7, e_s2_8, e_s2_9, e_s2_10, e_dln, e_dli, e_dlr, e_dll, e_b, e_bd, e_lb, e_lbd, e_lcmp, e_i2l, e_l2i, e_i2b, e_dupi, e_dupr, e_dup2, e_getf, e_at0, e_ats, e_putI, e_putL, e_putR, e_gets, e_alen, e_iald, e_iast, e_bast, e_aast, e_if1, e_if2, e_goto, e_sw, e_iret, e_zret, e_lret, e_vret, e_obji, List.set_cons_zero, List.set_cons_succ, List.set_nil, Option.toList, List.nil_append, List.cons_append, List.length_cons, List.length_nil, true_or, or_true, true_and, and_true, nd_fold, Nat.one_mul, ↓m_1, ↓m_2, ↓m_3, ↓m_4, ↓m_9, ↓m_1000, nm_ne, nm_ne', nm_inj, nm_lt, nm_le, nm_gt, nm_ge, nm_xor, nm_add, Nat.add_sub_cancel, not_true_eq_false, not_false_eq_true, na_inj, na_le, na_lt, na_add, na_mul, na_and, na_or, na_xor, na_shl, na_shr, na_sub, i_0, i_1, i_2, i_3, i_4, i_5, i_6, i_7, i_8, i_9, i_10, i_12, i_16, i_20, i_21, i_32, i_40, i_60, ol_25, ol_26, sl_25, sl_26, kw, ks, ol_19, ol_20, ax_obj_of (hs _ _ _), iv_rd, sl_19]
                refine k_callV gl_20 (c_M_add (k := k) (p := q) (c := c) (by omega) h1 h2 h3 h5 h6 (by simp at h10; omega) hk6 (by omega)) rfl rfl rfl ?_
                simp (disch := omega) only [e_cons, e_il, e_ll, e_al, e_lc0, e_lcs, e_ei, e_el, e_er, e_const, e_istore, e_lstore, e_astore, e_iinc, e_s1_0, e_s1_1, e_s1_2, e_s1_3, e_s1_4, e_s1_5, e_s1_6, e_s1_7, e_s1_8, e_s1_9, e_s1_10, e_s2_0, e_s2_1, e_s2_2, e_s2_3, e_s2_4, e_s2_5, e_s2_6, e_s2_7, e_s2_8, e_s2_9, e_s2_10, e_dln, e_dli, e_dlr, e_dll, e_b, e_bd, e_lb, e_lbd, e_lcmp, e_i2l, e_l2i, e_i2b, e_dupi, e_dupr, e_dup2, e_getf, e_at0, e_ats, e_putI, e_putL, e_putR, e_gets, e_alen, e_iald, e_iast, e_bast, e_aast, e_if1, e_if2, e_goto, e_sw, e_iret, e_zret, e_lret, e_vret, e_obji, List.set_cons_zero, List.set_cons_succ, List.set_nil, Option.toList, List.nil_append, List.cons_append, List.length_cons, List.length_nil, true_or, or_true, true_and, and_true, nd_fold, Nat.one_mul, ↓m_1, ↓m_2, ↓m_3, ↓m_4, ↓m_9, ↓m_1000, nm_ne, nm_ne', nm_inj, nm_lt, nm_le, nm_gt, nm_ge, nm_xor, nm_add, Nat.add_sub_cancel, not_true_eq_false, not_false_eq_true, na_inj, na_le, na_lt, na_add, na_mul, na_and, na_or, na_xor, na_shl, na_shr, na_sub, i_0, i_1, i_2, i_3, i_4, i_5, i_6, i_7, i_8, i_9, i_10, i_12, i_16, i_20, i_21, i_32, i_40, i_60, ol_19, ol_20, ax_obj_of (hs _ _ _), iv_rd, sl_19]
                exact ⟨rfl, rfl⟩
              | [], _, _, _, _, h7, _, _, _, _ => simp at h7; omega
              | _ :: _, [], _, _, _, _, h8, _, _, _ => simp at h8; omega
              | _ :: _, _ :: _, [], _, _, _, _, h9, _, _ => simp at h9; omega
              | _ :: _, _ :: _, _ :: _, [], _, _, _, _, h10, _ => simp at h10; omega
              | _ :: _, _ :: _, _ :: _, _ :: _, [], _, _, _, _, h11 => simp at h11; omega
  · rw [if_neg hin] at hF
    refine kk_E_readMinister_0 _ _ _ _ _ ?_
    simp (disch := omega) only [bk_E_readMinister_0, e_cons, e_il, e_ll, e_al, e_lc0, e_lcs, e_ei, e_el, e_er, e_const, e_istore, e_lstore, e_astore, e_iinc, e_s1_0, e_s1_1, e_s1_2, e_s1_3, e_s1_4, e_s1_5, e_s1_6, e_s1_7, e_s1_8, e_s1_9, e_s1_10, e_s2_0, e_s2_1, e_s2_2, e_s2_3, e_s2_4, e_s2_5, e_s2_6, e_s2_7, e_s2_8, e_s2_9, e_s2_10, e_dln, e_dli, e_dlr, e_dll, e_b, e_bd, e_lb, e_lbd, e_lcmp, e_i2l, e_l2i, e_i2b, e_dupi, e_dupr, e_dup2, e_getf, e_at0, e_ats, e_putI, e_putL, e_putR, e_gets, e_alen, e_iald, e_iast, e_bast, e_aast, e_if1, e_if2, e_goto, e_sw, e_iret, e_zret, e_lret, e_vret, e_obji, List.set_cons_zero, List.set_cons_succ, List.set_nil, Option.toList, List.nil_append, List.cons_append, List.length_cons, List.length_nil, true_or, or_true, true_and, and_true, nd_fold, Nat.one_mul, ↓m_1, ↓m_2, ↓m_3, ↓m_4, ↓m_9, ↓m_1000, nm_ne, nm_ne', nm_inj, nm_lt, nm_le, nm_gt, nm_ge, nm_xor, nm_add, Nat.add_sub_cancel, not_true_eq_false, not_false_eq_true, na_inj, na_le, na_lt, na_add, na_mul, na_and, na_or, na_xor, na_shl, na_shr, na_sub, i_0, i_1, i_2, i_3, i_4, i_5, i_6, i_7, i_8, i_9, i_10, i_12, i_16, i_20, i_21, i_32, i_40, i_60, ol_19, ol_20, ax_obj_of (hs _ _ _), iv_rd, sl_19]
    refine ⟨fun _ => ?_, fun h => absurd (show n ≤ i by omega) h⟩
    refine kk_E_readMinister_20 _ _ _ _ _ ?_
    simp (disch := omega) only [bk_E_readMinister_20, e_cons, e_il, e_ll, e_al, e_lc0, e_lcs, e_ei, e_el, e_er, e_const, e_istore, e_lstore, e_astore, e_iinc, e_s1_0, e_s1_1, e_s1_2, e_s1_3, e_s1_4, e_s1_5, e_s1_6, e_s1_7, e_s1_8, e_s1_9, e_s1_10, e_s2_0, e_s2_1, e_s2_2, e_s2_3, e_s2_4, e_s2_5, e_s2_6, e_s2_7, e_s2_8, e_s2_9, e_s2_10, e_dln, e_dli, e_dlr, e_dll, e_b, e_bd, e_lb, e_lbd, e_lcmp, e_i2l, e_l2i, e_i2b, e_dupi, e_dupr, e_dup2, e_getf, e_at0, e_ats, e_putI, e_putL, e_putR, e_gets, e_alen, e_iald, e_iast, e_bast, e_aast, e_if1, e_if2, e_goto, e_sw, e_iret, e_zret, e_lret, e_vret, e_obji, List.set_cons_zero, List.set_cons_succ, List.set_nil, Option.toList, List.nil_append, List.cons_append, List.length_cons, List.length_nil, true_or, or_true, true_and, and_true, nd_fold, Nat.one_mul, ↓m_1, ↓m_2, ↓m_3, ↓m_4, ↓m_9, ↓m_1000, nm_ne, nm_ne', nm_inj, nm_lt, nm_le, nm_gt, nm_ge, nm_xor, nm_add, Nat.add_sub_cancel, not_true_eq_false, not_false_eq_true, na_inj, na_le, na_lt, na_add, na_mul, na_and, na_or, na_xor, na_shl, na_shr, na_sub, i_0, i_1, i_2, i_3, i_4, i_5, i_6, i_7, i_8, i_9, i_10, i_12, i_16, i_20, i_21, i_32, i_40, i_60, ol_19, ol_20, ax_obj_of (hs _ _ _), iv_rd, sl_19]
    refine kk_E_readMinister_22 _ _ _ _ _ ?_
    simp (disch := omega) only [bk_E_readMinister_22, e_cons, e_il, e_ll, e_al, e_lc0, e_lcs, e_ei, e_el, e_er, e_const, e_istore, e_lstore, e_astore, e_iinc, e_s1_0, e_s1_1, e_s1_2, e_s1_3, e_s1_4, e_s1_5, e_s1_6, e_s1_7, e_s1_8, e_s1_9, e_s1_10, e_s2_0, e_s2_1, e_s2_2, e_s2_3, e_s2_4, e_s2_5, e_s2_6, e_s2_7, e_s2_8, e_s2_9, e_s2_10, e_dln, e_dli, e_dlr, e_dll, e_b, e_bd, e_lb, e_lbd, e_lcmp, e_i2l, e_l2i, e_i2b, e_dupi, e_dupr, e_dup2, e_getf, e_at0, e_ats, e_putI, e_putL, e_putR, e_gets, e_alen, e_iald, e_iast, e_bast, e_aast, e_if1, e_if2, e_goto, e_sw, e_iret, e_zret, e_lret, e_vret, e_obji, List.set_cons_zero, List.set_cons_succ, List.set_nil, Option.toList, List.nil_append, List.cons_append, List.length_cons, List.length_nil, true_or, or_true, true_and, and_true, nd_fold, Nat.one_mul, ↓m_1, ↓m_2, ↓m_3, ↓m_4, ↓m_9, ↓m_1000, nm_ne, nm_ne', nm_inj, nm_lt, nm_le, nm_gt, nm_ge, nm_xor, nm_add, Nat.add_sub_cancel, not_true_eq_false, not_false_eq_true, na_inj, na_le, na_lt, na_add, na_mul, na_and, na_or, na_xor, na_shl, na_shr, na_sub, i_0, i_1, i_2, i_3, i_4, i_5, i_6, i_7, i_8, i_9, i_10, i_12, i_16, i_20, i_21, i_32, i_40, i_60, ol_19, ol_20, ax_obj_of (hs _ _ _), iv_rd, sl_19]
    exact ⟨fun _ => bad i _ hF.symm, fun h => h.elim⟩
end EM
