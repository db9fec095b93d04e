/-! MINISTERS: one more, how many are of a KIND -/
theorem gv_iv (ps : List Nat) (r : List Int32) : gv ps r = iv (ps.map nI ++ r) := by simp [gv, iv]
def ms_many (ks : List Nat) (w j : Nat) : Nat := ((List.range j).filter (fun i => ms_is (ks.getD i 0) w)).length
theorem ms_many_succ (ks : List Nat) (w j : Nat) : ms_many ks w (j + 1) = ms_many ks w j + bz (ms_is (ks.getD j 0) w) := by
  unfold ms_many
  rw [List.range_succ, List.filter_append, List.length_append]
  congr 1
  rw [List.filter_cons]
  unfold bz
  split <;> rfl
theorem ms_many_le (ks : List Nat) (w j : Nat) : ms_many ks w j ≤ j := Nat.le_trans (List.length_filter_le _ _) (by simp)
section MM
variable {xs : List Value} {rw : List Int32 × List (List Int32)} {tx : List Int32 × List (List Int32)} {rm : List Nat × List Nat × List Nat × List Nat × List Int32 × List Int32 × List Int32 × List Int32} {rr : List Nat × Nat × Nat × Nat × Nat × Nat × List Int32} {nx : Nat} {mn : List Nat × List Nat × List Nat × List Nat × List Int32 × List Int32 × List Int32 × List Int32} {ru : List Nat × Nat × Nat × Nat × Nat × Nat × List Int32} {nw : List Nat × Nat × Nat × Nat × Nat × Nat × List Int32} {ra : List Nat × Nat × Nat × Nat × Nat × Nat × List Int32} {dd : List Nat × List Int32} {k0 : Bool × List Nat × List Int32} {k1 : Bool × List Nat × List Int32} {k2 : Bool × List Nat × List Int32} {fc : List Int32} {lf : Int32} {td : Int32} {tu : Int64} {tl : Int64} {τ : ax_H}
theorem c_M_many {mk mp mc mo : List Nat} {mkr mpr mcr mor : List Int32} {w : Nat} (hn : mk.length ≤ 6) (hk : ∀ i, i < mk.length → mk.getD i 0 < 6) (hw : w < 6) : ax_ev mi_M_howManyAre [.ref 27, .int (nI w)] (lay xs rw tx rm rr nx (mk, mp, mc, mo, mkr, mpr, mcr, mor) ru nw ra dd k0 k1 k2 fc lf td tu tl τ) (some (.int (nI (ms_many mk w mk.length)))) (lay xs rw tx rm rr nx (mk, mp, mc, mo, mkr, mpr, mcr, mor) ru nw ra dd k0 k1 k2 fc lf td tu tl τ) := by
  refine ax_beg 2 rfl rfl ?_
  simp only [ax_ent, List.replicate, List.cons_append, List.nil_append, List.append_nil]
  generalize hH : (lay xs rw tx rm rr nx (mk, mp, mc, mo, mkr, mpr, mcr, mor) ru nw ra dd k0 k1 k2 fc lf td tu tl τ) = H0
  have e1 : ax_get H0 27 = some (1, [.ref 28, .ref 29, .ref 30, .ref 31, .int (nI mk.length)]) := by rw [← hH]; rfl
  have e2 : ax_get H0 28 = some (21, gv mk mkr) := by rw [← hH]; rfl
  have loop : ∀ (z j : Nat), j + z = mk.length → ax_go mi_M_howManyAre (fun v' H'' => v' = some (.int (nI (ms_many mk w mk.length))) ∧ H'' = H0) 4 (0, 0) [some (.ref 27), some (.int (nI w)), some (.int (nI (ms_many mk w j))), some (.int (nI j))] [] H0 := by
    intro z
    induction z with
    | zero =>
      intro j hj
      refine kk_M_howManyAre_4 _ _ _ _ _ ?_
      simp (disch := omega) only [bk_M_howManyAre_4, e_cons, e_il, e_ll, e_al, e_lc0, e_lcs, e_ei, e_el, e_er, e_const, e_istore, e_lstore, e_astore, e_iinc, e_s1_0, e_s1_1, e_s1_2, e_s1_3, e_s1_4, e_s1_5, e_s1_6, e_s1_7, e_s1_8, e_s1_9, e_s1_10, e_s2_0, e_s2_1, e_s2_2, e_s2_3, e_s2_4, e_s2_5, e_s2_6, e_s2_7, e_s2_8, e_s2_9, e_s2_10, e_dln, e_dli, e_dlr, e_dll, e_b, e_bd, e_lb, e_lbd, e_lcmp, e_i2l, e_l2i, e_i2b, e_dupi, e_dupr, e_dup2, e_getf, e_at0, e_ats, e_putI, e_putL, e_putR, e_gets, e_alen, e_iald, e_iast, e_bast, e_aast, e_if1, e_if2, e_goto, e_sw, e_iret, e_zret, e_lret, e_vret, e_obji, List.set_cons_zero, List.set_cons_succ, List.set_nil, Option.toList, List.nil_append, List.cons_append, List.length_cons, List.length_nil, true_or, or_true, true_and, and_true, nd_fold, Nat.one_mul, ↓m_1, ↓m_2, ↓m_3, ↓m_4, ↓m_9, ↓m_1000, nm_ne, nm_ne', nm_inj, nm_lt, nm_le, nm_gt, nm_ge, nm_xor, nm_add, Nat.add_sub_cancel, not_true_eq_false, not_false_eq_true, na_inj, na_le, na_lt, na_add, na_mul, na_and, na_or, na_xor, na_shl, na_shr, na_sub, i_0, i_1, i_2, i_3, i_4, i_5, i_6, i_7, i_8, i_9, i_10, i_12, i_16, i_20, i_21, i_32, i_40, i_60, ax_obj_of e1, ol_27, ol_28, gv_rd]
      refine ⟨fun _ => ?_, fun hc => absurd hc (by omega)⟩
      refine kk_M_howManyAre_34 _ _ _ _ _ ?_
      simp (disch := omega) only [bk_M_howManyAre_34, e_cons, e_il, e_ll, e_al, e_lc0, e_lcs, e_ei, e_el, e_er, e_const, e_istore, e_lstore, e_astore, e_iinc, e_s1_0, e_s1_1, e_s1_2, e_s1_3, e_s1_4, e_s1_5, e_s1_6, e_s1_7, e_s1_8, e_s1_9, e_s1_10, e_s2_0, e_s2_1, e_s2_2, e_s2_3, e_s2_4, e_s2_5, e_s2_6, e_s2_7, e_s2_8, e_s2_9, e_s2_10, e_dln, e_dli, e_dlr, e_dll, e_b, e_bd, e_lb, e_lbd, e_lcmp, e_i2l, e_l2i, e_i2b, e_dupi, e_dupr, e_dup2, e_getf, e_at0, e_ats, e_putI, e_putL, e_putR, e_gets, e_alen, e_iald, e_iast, e_bast, e_aast, e_if1, e_if2, e_goto, e_sw, e_iret, e_zret, e_lret, e_vret, e_obji, List.set_cons_zero, List.set_cons_succ, List.set_nil, Option.toList, List.nil_append, List.cons_append, List.length_cons, List.length_nil, true_or, or_true, true_and, and_true, nd_fold, Nat.one_mul, ↓m_1, ↓m_2, ↓m_3, ↓m_4, ↓m_9, ↓m_1000, nm_ne, nm_ne', nm_inj, nm_lt, nm_le, nm_gt, nm_ge, nm_xor, nm_add, Nat.add_sub_cancel, not_true_eq_false, not_false_eq_true, na_inj, na_le, na_lt, na_add, na_mul, na_and, na_or, na_xor, na_shl, na_shr, na_sub, i_0, i_1, i_2, i_3, i_4, i_5, i_6, i_7, i_8, i_9, i_10, i_12, i_16, i_20, i_21, i_32, i_40, i_60, ol_27, ol_28, gv_rd]
      rw [show j = mk.length by omega]
    | succ z ih =>
      intro j hj
      have hle := ms_many_le mk w j
      have hb := bz_01 (ms_is (mk.getD j 0) w)
      have hn : ∀ q, q = ms_many mk w (j + 1) → ax_go mi_M_howManyAre (fun v' H'' => v' = some (.int (nI (ms_many mk w mk.length))) ∧ H'' = H0) 28 (0, 0) [some (.ref 27), some (.int (nI w)), some (.int (nI q)), some (.int (nI j))] [] H0 := by
        intro q hq
        subst hq
        refine kk_M_howManyAre_28 _ _ _ _ _ ?_
        simp (disch := omega) only [bk_M_howManyAre_28, e_cons, e_il, e_ll, e_al, e_lc0, e_lcs, e_ei, e_el, e_er, e_const, e_istore, e_lstore, e_astore, e_iinc, e_s1_0, e_s1_1, e_s1_2, e_s1_3, e_s1_4, e_s1_5, e_s1_6, e_s1_7, e_s1_8, e_s1_9, e_s1_10, e_s2_0, e_s2_1, e_s2_2, e_s2_3, e_s2_4, e_s2_5, e_s2_6, e_s2_7, e_s2_8, e_s2_9, e_s2_10, e_dln, e_dli, e_dlr, e_dll, e_b, e_bd, e_lb, e_lbd, e_lcmp, e_i2l, e_l2i, e_i2b, e_dupi, e_dupr, e_dup2, e_getf, e_at0, e_ats, e_putI, e_putL, e_putR, e_gets, e_alen, e_iald, e_iast, e_bast, e_aast, e_if1, e_if2, e_goto, e_sw, e_iret, e_zret, e_lret, e_vret, e_obji, List.set_cons_zero, List.set_cons_succ, List.set_nil, Option.toList, List.nil_append, List.cons_append, List.length_cons, List.length_nil, true_or, or_true, true_and, and_true, nd_fold, Nat.one_mul, ↓m_1, ↓m_2, ↓m_3, ↓m_4, ↓m_9, ↓m_1000, nm_ne, nm_ne', nm_inj, nm_lt, nm_le, nm_gt, nm_ge, nm_xor, nm_add, Nat.add_sub_cancel, not_true_eq_false, not_false_eq_true, na_inj, na_le, na_lt, na_add, na_mul, na_and, na_or, na_xor, na_shl, na_shr, na_sub, i_0, i_1, i_2, i_3, i_4, i_5, i_6, i_7, i_8, i_9, i_10, i_12, i_16, i_20, i_21, i_32, i_40, i_60, ol_27, ol_28, gv_rd]
        exact ih (j + 1) (by omega)
      rw [ms_many_succ] at hn
      refine kk_M_howManyAre_4 _ _ _ _ _ ?_
      simp (disch := omega) only [bk_M_howManyAre_4, e_cons, e_il, e_ll, e_al, e_lc0, e_lcs, e_ei, e_el, e_er, e_const, e_istore, e_lstore, e_astore, e_iinc, e_s1_0, e_s1_1, e_s1_2, e_s1_3, e_s1_4, e_s1_5, e_s1_6, e_s1_7, e_s1_8, e_s1_9, e_s1_10, e_s2_0, e_s2_1, e_s2_2, e_s2_3, e_s2_4, e_s2_5, e_s2_6, e_s2_7, e_s2_8, e_s2_9, e_s2_10, e_dln, e_dli, e_dlr, e_dll, e_b, e_bd, e_lb, e_lbd, e_lcmp, e_i2l, e_l2i, e_i2b, e_dupi, e_dupr, e_dup2, e_getf, e_at0, e_ats, e_putI, e_putL, e_putR, e_gets, e_alen, e_iald, e_iast, e_bast, e_aast, e_if1, e_if2, e_goto, e_sw, e_iret, e_zret, e_lret, e_vret, e_obji, List.set_cons_zero, List.set_cons_succ, List.set_nil, Option.toList, List.nil_append, List.cons_append, List.length_cons, List.length_nil, true_or, or_true, true_and, and_true, nd_fold, Nat.one_mul, ↓m_1, ↓m_2, ↓m_3, ↓m_4, ↓m_9, ↓m_1000, nm_ne, nm_ne', nm_inj, nm_lt, nm_le, nm_gt, nm_ge, nm_xor, nm_add, Nat.add_sub_cancel, not_true_eq_false, not_false_eq_true, na_inj, na_le, na_lt, na_add, na_mul, na_and, na_or, na_xor, na_shl, na_shr, na_sub, i_0, i_1, i_2, i_3, i_4, i_5, i_6, i_7, i_8, i_9, i_10, i_12, i_16, i_20, i_21, i_32, i_40, i_60, ax_obj_of e1, ax_obj_of e2, ol_27, ol_28, gv_rd]
      refine ⟨fun hc => absurd hc (by omega), fun _ => ?_⟩
      refine k_call (c_N_isOf (hk j (by omega)) hw) rfl rfl rfl ?_
      simp (disch := omega) only [e_cons, e_il, e_ll, e_al, e_lc0, e_lcs, e_ei, e_el, e_er, e_const, e_istore, e_lstore, e_astore, e_iinc, e_s1_0, e_s1_1, e_s1_2, e_s1_3, e_s1_4, e_s1_5, e_s1_6, e_s1_7, e_s1_8, e_s1_9, e_s1_10, e_s2_0, e_s2_1, e_s2_2, e_s2_3, e_s2_4, e_s2_5, e_s2_6, e_s2_7, e_s2_8, e_s2_9, e_s2_10, e_dln, e_dli, e_dlr, e_dll, e_b, e_bd, e_lb, e_lbd, e_lcmp, e_i2l, e_l2i, e_i2b, e_dupi, e_dupr, e_dup2, e_getf, e_at0, e_ats, e_putI, e_putL, e_putR, e_gets, e_alen, e_iald, e_iast, e_bast, e_aast, e_if1, e_if2, e_goto, e_sw, e_iret, e_zret, e_lret, e_vret, e_obji, List.set_cons_zero, List.set_cons_succ, List.set_nil, Option.toList, List.nil_append, List.cons_append, List.length_cons, List.length_nil, true_or, or_true, true_and, and_true, nd_fold, Nat.one_mul, ↓m_1, ↓m_2, ↓m_3, ↓m_4, ↓m_9, ↓m_1000, nm_ne, nm_ne', nm_inj, nm_lt, nm_le, nm_gt, nm_ge, nm_xor, nm_add, Nat.add_sub_cancel, not_true_eq_false, not_false_eq_true, na_inj, na_le, na_lt, na_add, na_mul, na_and, na_or, na_xor, na_shl, na_shr, na_sub, i_0, i_1, i_2, i_3, i_4, i_5, i_6, i_7, i_8, i_9, i_10, i_12, i_16, i_20, i_21, i_32, i_40, i_60, ol_27, ol_28, gv_rd]
      refine ⟨fun h => ?_, fun h => ?_⟩
      · exact hn _ (by omega)
      · exact hn _ (by omega)
  refine kk_M_howManyAre_0 _ _ _ _ _ ?_
  simp (disch := omega) only [bk_M_howManyAre_0, e_cons, e_il, e_ll, e_al, e_lc0, e_lcs, e_ei, e_el, e_er, e_const, e_istore, e_lstore, e_astore, e_iinc, e_s1_0, e_s1_1, e_s1_2, e_s1_3, e_s1_4, e_s1_5, e_s1_6, e_s1_7, e_s1_8, e_s1_9, e_s1_10, e_s2_0, e_s2_1, e_s2_2, e_s2_3, e_s2_4, e_s2_5, e_s2_6, e_s2_7, e_s2_8, e_s2_9, e_s2_10, e_dln, e_dli, e_dlr, e_dll, e_b, e_bd, e_lb, e_lbd, e_lcmp, e_i2l, e_l2i, e_i2b, e_dupi, e_dupr, e_dup2, e_getf, e_at0, e_ats, e_putI, e_putL, e_putR, e_gets, e_alen, e_iald, e_iast, e_bast, e_aast, e_if1, e_if2, e_goto, e_sw, e_iret, e_zret, e_lret, e_vret, e_obji, List.set_cons_zero, List.set_cons_succ, List.set_nil, Option.toList, List.nil_append, List.cons_append, List.length_cons, List.length_nil, true_or, or_true, true_and, and_true, nd_fold, Nat.one_mul, ↓m_1, ↓m_2, ↓m_3, ↓m_4, ↓m_9, ↓m_1000, nm_ne, nm_ne', nm_inj, nm_lt, nm_le, nm_gt, nm_ge, nm_xor, nm_add, Nat.add_sub_cancel, not_true_eq_false, not_false_eq_true, na_inj, na_le, na_lt, na_add, na_mul, na_and, na_or, na_xor, na_shl, na_shr, na_sub, i_0, i_1, i_2, i_3, i_4, i_5, i_6, i_7, i_8, i_9, i_10, i_12, i_16, i_20, i_21, i_32, i_40, i_60, ol_27, ol_28, gv_rd]
  exact loop mk.length 0 (by omega)
end MM
/-- where one more comes in the order: behind those of as much CUNNING -/
def ms_rank (cu : List Nat) (c : Nat) (eo : List Nat) : Nat → Nat
  | 0 => 0
  | r + 1 => if cu.getD (eo.getD r 0) 0 < c then ms_rank cu c eo r else r + 1
def ms_ins (cu : List Nat) (c : Nat) (eo : List Nat) : List Nat := eo.take (ms_rank cu c eo eo.length) ++ [eo.length] ++ eo.drop (ms_rank cu c eo eo.length)
def ms_eff (k c : Nat) : Nat := if k = 2 then c + 10 else c
theorem ms_rank_le (cu : List Nat) (c : Nat) (eo : List Nat) : ∀ r, ms_rank cu c eo r ≤ r
  | 0 => Nat.le_refl _
  | r + 1 => by
    unfold ms_rank
    split
    · have := ms_rank_le cu c eo r; omega
    · exact Nat.le_refl _
theorem ms_ins_len (cu : List Nat) (c : Nat) (eo : List Nat) : (ms_ins cu c eo).length = eo.length + 1 := by
  have := ms_rank_le cu c eo eo.length
  simp [ms_ins]
  omega
/-- the order's row as it is shifted: the first q as they were, a place y, the others one further -/
def ms_sh (eo : List Nat) (q : Nat) (y : Int32) (r : List Int32) : List Int32 := (eo.take q).map nI ++ y :: ((eo.drop q).map nI ++ r)
theorem ms_sh_len {eo : List Nat} {q : Nat} {y : Int32} {r : List Int32} (h : q ≤ eo.length) : (ms_sh eo q y r).length = eo.length + 1 + r.length := by
  simp [ms_sh]
  omega
theorem ms_sh_at {eo : List Nat} {q : Nat} {y : Int32} {r : List Int32} (h : q + 1 ≤ eo.length) : ig (ms_sh eo (q + 1) y r) q = nI (eo.getD q 0) := by
  unfold ig ms_sh
  rw [List.getD_eq_getElem?_getD, List.getElem?_append_left (by simp; omega)]
  rw [List.getElem?_map, List.getElem?_take_of_lt (by omega), List.getD_eq_getElem?_getD, List.getElem?_eq_getElem (by omega)]
  rfl
theorem ms_sh_step {eo : List Nat} {q : Nat} {y : Int32} {r : List Int32} (h : q + 1 ≤ eo.length) : (ms_sh eo (q + 1) y r).set (q + 1) (nI (eo.getD q 0)) = ms_sh eo q (nI (eo.getD q 0)) r := by
  unfold ms_sh
  rw [List.set_append_right _ _ (by simp; omega)]
  rw [show q + 1 - ((eo.take (q + 1)).map nI).length = 0 by simp; omega]
  rw [List.set_cons_zero]
  have ht : eo.take (q + 1) = eo.take q ++ [eo.getD q 0] := by
    rw [List.take_succ_eq_append_getElem (by omega)]
    simp [List.getD_eq_getElem?_getD, show q < eo.length by omega]
  rw [drop_getD (show q < eo.length by omega), ht, List.map_cons, List.map_append, List.append_assoc]
  rfl
theorem ms_sh_end {eo : List Nat} {q n : Nat} {y : Int32} {r : List Int32} (h : q ≤ eo.length) : iv ((ms_sh eo q y r).set q (nI n)) = gv (eo.take q ++ [n] ++ eo.drop q) r := by
  rw [gv_iv]
  congr 1
  unfold ms_sh
  rw [List.set_append_right _ _ (by simp; omega)]
  rw [show q - ((eo.take q).map nI).length = 0 by simp; omega]
  simp
theorem iv_wr' {xs : List Int32} {i : Nat} {P : Nat → Prop} (h : i < xs.length) (hb : xs.length ≤ 100000) : ax_wr (iv xs) (nI i) P = P i := iv_wr h hb
section MA
variable {xs : List Value} {rw : List Int32 × List (List Int32)} {tx : List Int32 × List (List Int32)} {rm : List Nat × List Nat × List Nat × List Nat × List Int32 × List Int32 × List Int32 × List Int32} {rr : List Nat × Nat × Nat × Nat × Nat × Nat × List Int32} {nx : Nat} {mn : List Nat × List Nat × List Nat × List Nat × List Int32 × List Int32 × List Int32 × List Int32} {ru : List Nat × Nat × Nat × Nat × Nat × Nat × List Int32} {nw : List Nat × Nat × Nat × Nat × Nat × Nat × List Int32} {ra : List Nat × Nat × Nat × Nat × Nat × Nat × List Int32} {dd : List Nat × List Int32} {k0 : Bool × List Nat × List Int32} {k1 : Bool × List Nat × List Int32} {k2 : Bool × List Nat × List Int32} {fc : List Int32} {lf : Int32} {td : Int32} {tu : Int64} {tl : Int64} {τ : ax_H}
theorem c_M_add {ek ep ec eo : List Nat} {x1 x2 x3 x4 : Int32} {r1 r2 r3 r4 : List Int32} {k p c : Nat} (h1 : ek.length < 6) (h2 : ep.length = ek.length) (h3 : ec.length = ek.length) (h4 : eo.length = ek.length) (h5 : ∀ i, i < eo.length → eo.getD i 0 < eo.length) (h6 : ∀ i, i < ec.length → ec.getD i 0 < 20) (hr : r4.length ≤ 6) (hk : k < 6) (hc : c < 10) :
    ax_ev mi_M_add [.ref 20, .int (nI k), .int (nI p), .int (nI c)] (lay xs rw tx (ek, ep, ec, eo, x1 :: r1, x2 :: r2, x3 :: r3, x4 :: r4) rr nx mn ru nw ra dd k0 k1 k2 fc lf td tu tl τ) none (lay xs rw tx (ek ++ [k], ep ++ [p], ec ++ [ms_eff k c], ms_ins ec (ms_eff k c) eo, r1, r2, r3, r4) rr nx mn ru nw ra dd k0 k1 k2 fc lf td tu tl τ) := by
  refine ax_beg 1 rfl rfl ?_
  simp only [ax_ent, List.replicate, List.cons_append, List.nil_append, List.append_nil]
  have he : ms_eff k c < 20 := by unfold ms_eff; split <;> omega
  have w2 : ∀ (v : Int32), ax_wr (gv ep (x2 :: r2)) (nI ek.length) = ax_wr (gv ep (x2 :: r2)) (nI ep.length) := by intro _; rw [h2]
  have key : ∀ (n : Nat), n = ek.length → ∀ (ps : List Nat) (x : Int32) (r : List Int32) (P : Nat → Prop), ps.length = n → ax_wr (gv ps (x :: r)) (nI n) P = P n := by
    intro n hn ps x r P hps
    subst hps
    exact gvx_wr (by omega)
  have kw1 := key ek.length rfl ek x1 r1
  have kw2 := key ek.length rfl ep x2 r2
  have kw3 := key ek.length rfl ec x3 r3
  have s1 : ∀ v, (gv ek (x1 :: r1)).set ek.length (.int (nI v)) = gv (ek ++ [v]) r1 := fun v => gvx_set
  have s2 : ∀ v, (gv ep (x2 :: r2)).set ek.length (.int (nI v)) = gv (ep ++ [v]) r2 := fun v => by rw [← h2]; exact gvx_set
  have s3 : ∀ v, (gv ec (x3 :: r3)).set ek.length (.int (nI v)) = gv (ec ++ [v]) r3 := fun v => by rw [← h3]; exact gvx_set
  have hcl : (ec ++ [ms_eff k c]).length = ek.length + 1 := by simp [h3]
  have hcn : (ec ++ [ms_eff k c]).getD ek.length 0 = ms_eff k c := by rw [← h3]; simp
  have hco : ∀ i, i < ek.length → (ec ++ [ms_eff k c]).getD i 0 = ec.getD i 0 := fun i hi => by
    simp [List.getD_eq_getElem?_getD, List.getElem?_append_left (show i < ec.length by omega)]
  generalize hH : ax_set (ax_set (ax_set (lay xs rw tx (ek, ep, ec, eo, x1 :: r1, x2 :: r2, x3 :: r3, x4 :: r4) rr nx mn ru nw ra dd k0 k1 k2 fc lf td tu tl τ) 21 (21, gv (ek ++ [k]) r1)) 22 (21, gv (ep ++ [p]) r2)) 23 (21, gv (ec ++ [ms_eff k c]) r3) = H1
  have g20 : ax_get H1 20 = some (1, [.ref 21, .ref 22, .ref 23, .ref 24, .int (nI ek.length)]) := by rw [← hH]; rfl
  have g23 : ax_get H1 23 = some (21, gv (ec ++ [ms_eff k c]) r3) := by rw [← hH]; rfl
  have g24 : ax_get H1 24 = some (21, iv (ms_sh eo eo.length x4 r4)) := by
    rw [← hH, show iv (ms_sh eo eo.length x4 r4) = gv eo (x4 :: r4) by rw [gv_iv]; simp [ms_sh]]
    rfl
  have gl : 24 < H1.length := ax_get_lt g24
  have loop : ∀ (q : Nat) (y : Int32), q ≤ eo.length → ms_rank ec (ms_eff k c) eo eo.length = ms_rank ec (ms_eff k c) eo q → ax_go mi_M_add (fun v' H'' => v' = none ∧ H'' = (lay xs rw tx (ek ++ [k], ep ++ [p], ec ++ [ms_eff k c], ms_ins ec (ms_eff k c) eo, r1, r2, r3, r4) rr nx mn ru nw ra dd k0 k1 k2 fc lf td tu tl τ)) 58 (0, 0) [some (.ref 20), some (.int (nI k)), some (.int (nI p)), some (.int (nI c)), some (.int (nI q))] [] (ax_set H1 24 (21, iv (ms_sh eo q y r4))) := by
    intro q
    have fin : ∀ (q : Nat) (y : Int32), q ≤ eo.length → ms_rank ec (ms_eff k c) eo eo.length = q → ax_go mi_M_add (fun v' H'' => v' = none ∧ H'' = (lay xs rw tx (ek ++ [k], ep ++ [p], ec ++ [ms_eff k c], ms_ins ec (ms_eff k c) eo, r1, r2, r3, r4) rr nx mn ru nw ra dd k0 k1 k2 fc lf td tu tl τ)) 111 (0, 0) [some (.ref 20), some (.int (nI k)), some (.int (nI p)), some (.int (nI c)), some (.int (nI q))] [] (ax_set H1 24 (21, iv (ms_sh eo q y r4))) := by
      intro q y hq hf
      have hl := ms_sh_len (y := y) (r := r4) hq
      refine kk_M_add_111 _ _ _ _ _ ?_
      simp (disch := omega) only [bk_M_add_111, e_cons, e_il, e_ll, e_al, e_lc0, e_lcs, e_ei, e_el, e_er, e_const, e_istore, e_lstore, e_astore, e_iinc, e_s1_0, e_s1_1, e_s1_2, e_s1_3, e_s1_4, e_s1_5, e_s1_6, e_s1_7, e_s1_8, e_s1_9, e_s1_10, e_s2_0, e_s2_1, e_s2_2, e_s2_3, e_s2_4, e_s2_5, e_s2_6, e_s2_7, e_s2_8, e_s2_9, e_s2_10, e_dln, e_dli, e_dlr, e_dll, e_b, e_bd, e_lb, e_lbd, e_lcmp, e_i2l, e_l2i, e_i2b, e_dupi, e_dupr, e_dup2, e_getf, e_at0, e_ats, e_putI, e_putL, e_putR, e_gets, e_alen, e_iald, e_iast, e_bast, e_aast, e_if1, e_if2, e_goto, e_sw, e_iret, e_zret, e_lret, e_vret, e_obji, List.set_cons_zero, List.set_cons_succ, List.set_nil, Option.toList, List.nil_append, List.cons_append, List.length_cons, List.length_nil, true_or, or_true, true_and, and_true, nd_fold, Nat.one_mul, ↓m_1, ↓m_2, ↓m_3, ↓m_4, ↓m_9, ↓m_1000, nm_ne, nm_ne', nm_inj, nm_lt, nm_le, nm_gt, nm_ge, nm_xor, nm_add, Nat.add_sub_cancel, not_true_eq_false, not_false_eq_true, na_inj, na_le, na_lt, na_add, na_mul, na_and, na_or, na_xor, na_shl, na_shr, na_sub, i_0, i_1, i_2, i_3, i_4, i_5, i_6, i_7, i_8, i_9, i_10, i_12, i_16, i_20, i_21, i_32, i_40, i_60, obj_set_ne, ax_obj_of g20, obj_set_eq gl, iv_wr', iv_set, ms_sh_end, set_set]
      have e : (ek ++ [k]).length = ek.length + 1 := by simp
      rw [← h4]
      rw [show eo.take q ++ [eo.length] ++ eo.drop q = ms_ins ec (ms_eff k c) eo by unfold ms_ins; rw [hf]]
      rw [← hH]
      unfold lay
      rw [e, h4]
      rfl
    induction q with
    | zero =>
      intro y hq hf
      refine kk_M_add_58 _ _ _ _ _ ?_
      simp (disch := omega) only [bk_M_add_58, e_cons, e_il, e_ll, e_al, e_lc0, e_lcs, e_ei, e_el, e_er, e_const, e_istore, e_lstore, e_astore, e_iinc, e_s1_0, e_s1_1, e_s1_2, e_s1_3, e_s1_4, e_s1_5, e_s1_6, e_s1_7, e_s1_8, e_s1_9, e_s1_10, e_s2_0, e_s2_1, e_s2_2, e_s2_3, e_s2_4, e_s2_5, e_s2_6, e_s2_7, e_s2_8, e_s2_9, e_s2_10, e_dln, e_dli, e_dlr, e_dll, e_b, e_bd, e_lb, e_lbd, e_lcmp, e_i2l, e_l2i, e_i2b, e_dupi, e_dupr, e_dup2, e_getf, e_at0, e_ats, e_putI, e_putL, e_putR, e_gets, e_alen, e_iald, e_iast, e_bast, e_aast, e_if1, e_if2, e_goto, e_sw, e_iret, e_zret, e_lret, e_vret, e_obji, List.set_cons_zero, List.set_cons_succ, List.set_nil, Option.toList, List.nil_append, List.cons_append, List.length_cons, List.length_nil, true_or, or_true, true_and, and_true, nd_fold, Nat.one_mul, ↓m_1, ↓m_2, ↓m_3, ↓m_4, ↓m_9, ↓m_1000, nm_ne, nm_ne', nm_inj, nm_lt, nm_le, nm_gt, nm_ge, nm_xor, nm_add, Nat.add_sub_cancel, not_true_eq_false, not_false_eq_true, na_inj, na_le, na_lt, na_add, na_mul, na_and, na_or, na_xor, na_shl, na_shr, na_sub, i_0, i_1, i_2, i_3, i_4, i_5, i_6, i_7, i_8, i_9, i_10, i_12, i_16, i_20, i_21, i_32, i_40, i_60]
      refine ⟨fun _ => ?_, fun hc => absurd hc (by omega)⟩
      exact fin 0 y hq (by rw [hf]; rfl)
    | succ q ih =>
      intro y hq hf
      have hl := ms_sh_len (y := y) (r := r4) hq
      have hoq := h5 q (by omega)
      have hcq := h6 (eo.getD q 0) (by omega)
      refine kk_M_add_58 _ _ _ _ _ ?_
      simp (disch := omega) only [bk_M_add_58, e_cons, e_il, e_ll, e_al, e_lc0, e_lcs, e_ei, e_el, e_er, e_const, e_istore, e_lstore, e_astore, e_iinc, e_s1_0, e_s1_1, e_s1_2, e_s1_3, e_s1_4, e_s1_5, e_s1_6, e_s1_7, e_s1_8, e_s1_9, e_s1_10, e_s2_0, e_s2_1, e_s2_2, e_s2_3, e_s2_4, e_s2_5, e_s2_6, e_s2_7, e_s2_8, e_s2_9, e_s2_10, e_dln, e_dli, e_dlr, e_dll, e_b, e_bd, e_lb, e_lbd, e_lcmp, e_i2l, e_l2i, e_i2b, e_dupi, e_dupr, e_dup2, e_getf, e_at0, e_ats, e_putI, e_putL, e_putR, e_gets, e_alen, e_iald, e_iast, e_bast, e_aast, e_if1, e_if2, e_goto, e_sw, e_iret, e_zret, e_lret, e_vret, e_obji, List.set_cons_zero, List.set_cons_succ, List.set_nil, Option.toList, List.nil_append, List.cons_append, List.length_cons, List.length_nil, true_or, or_true, true_and, and_true, nd_fold, Nat.one_mul, ↓m_1, ↓m_2, ↓m_3, ↓m_4, ↓m_9, ↓m_1000, nm_ne, nm_ne', nm_inj, nm_lt, nm_le, nm_gt, nm_ge, nm_xor, nm_add, Nat.add_sub_cancel, not_true_eq_false, not_false_eq_true, na_inj, na_le, na_lt, na_add, na_mul, na_and, na_or, na_xor, na_shl, na_shr, na_sub, i_0, i_1, i_2, i_3, i_4, i_5, i_6, i_7, i_8, i_9, i_10, i_12, i_16, i_20, i_21, i_32, i_40, i_60, obj_set_ne, ax_obj_of g20, ax_obj_of g23, obj_set_eq gl, iv_rd, iv_wr', ms_sh_at, gv_rd, hcn, hco, ms_sh_step, Nat.add_sub_cancel, iv_set, set_set]
      refine ⟨fun hc => absurd hc (by omega), fun _ => ⟨fun h => ?_, fun h => ?_⟩⟩
      · refine fin (q + 1) y hq ?_
        rw [hf]
        unfold ms_rank
        rw [if_neg (by omega)]
      · exact ih (nI (eo.getD q 0)) (by omega) (by rw [hf]; conv => lhs; unfold ms_rank; rw [if_pos (by omega)])
  have go51 : ∀ (v : Int32), v = nI (ms_eff k c) → ax_go mi_M_add (fun v' H'' => v' = none ∧ H'' = (lay xs rw tx (ek ++ [k], ep ++ [p], ec ++ [ms_eff k c], ms_ins ec (ms_eff k c) eo, r1, r2, r3, r4) rr nx mn ru nw ra dd k0 k1 k2 fc lf td tu tl τ)) 51 (0, 0) [some (.ref 20), some (.int (nI k)), some (.int (nI p)), some (.int (nI c)), none] [.int v, .int (nI ek.length), .ref 23] (ax_set (ax_set (lay xs rw tx (ek, ep, ec, eo, x1 :: r1, x2 :: r2, x3 :: r3, x4 :: r4) rr nx mn ru nw ra dd k0 k1 k2 fc lf td tu tl τ) 21 (21, gv (ek ++ [k]) r1)) 22 (21, gv (ep ++ [p]) r2)) := by
    intro v hv
    subst hv
    refine kk_M_add_51 _ _ _ _ _ ?_
    simp (disch := omega) only [bk_M_add_51, e_cons, e_il, e_ll, e_al, e_lc0, e_lcs, e_ei, e_el, e_er, e_const, e_istore, e_lstore, e_astore, e_iinc, e_s1_0, e_s1_1, e_s1_2, e_s1_3, e_s1_4, e_s1_5, e_s1_6, e_s1_7, e_s1_8, e_s1_9, e_s1_10, e_s2_0, e_s2_1, e_s2_2, e_s2_3, e_s2_4, e_s2_5, e_s2_6, e_s2_7, e_s2_8, e_s2_9, e_s2_10, e_dln, e_dli, e_dlr, e_dll, e_b, e_bd, e_lb, e_lbd, e_lcmp, e_i2l, e_l2i, e_i2b, e_dupi, e_dupr, e_dup2, e_getf, e_at0, e_ats, e_putI, e_putL, e_putR, e_gets, e_alen, e_iald, e_iast, e_bast, e_aast, e_if1, e_if2, e_goto, e_sw, e_iret, e_zret, e_lret, e_vret, e_obji, List.set_cons_zero, List.set_cons_succ, List.set_nil, Option.toList, List.nil_append, List.cons_append, List.length_cons, List.length_nil, true_or, or_true, true_and, and_true, nd_fold, Nat.one_mul, ↓m_1, ↓m_2, ↓m_3, ↓m_4, ↓m_9, ↓m_1000, nm_ne, nm_ne', nm_inj, nm_lt, nm_le, nm_gt, nm_ge, nm_xor, nm_add, Nat.add_sub_cancel, not_true_eq_false, not_false_eq_true, na_inj, na_le, na_lt, na_add, na_mul, na_and, na_or, na_xor, na_shl, na_shr, na_sub, i_0, i_1, i_2, i_3, i_4, i_5, i_6, i_7, i_8, i_9, i_10, i_12, i_16, i_20, i_21, i_32, i_40, i_60, ol_20, ol_23, os_0, os_1, os_2, os_3, os_4, os_5, os_6, os_7, os_8, os_9, obj_set_ne, kw3, s3]
    have := loop eo.length x4 (Nat.le_refl _) rfl
    rw [set_self g24, h4, ← hH] at this
    exact this
  refine kk_M_add_0 _ _ _ _ _ ?_
  simp (disch := omega) only [bk_M_add_0, e_cons, e_il, e_ll, e_al, e_lc0, e_lcs, e_ei, e_el, e_er, e_const, e_istore, e_lstore, e_astore, e_iinc, e_s1_0, e_s1_1, e_s1_2, e_s1_3, e_s1_4, e_s1_5, e_s1_6, e_s1_7, e_s1_8, e_s1_9, e_s1_10, e_s2_0, e_s2_1, e_s2_2, e_s2_3, e_s2_4, e_s2_5, e_s2_6, e_s2_7, e_s2_8, e_s2_9, e_s2_10, e_dln, e_dli, e_dlr, e_dll, e_b, e_bd, e_lb, e_lbd, e_lcmp, e_i2l, e_l2i, e_i2b, e_dupi, e_dupr, e_dup2, e_getf, e_at0, e_ats, e_putI, e_putL, e_putR, e_gets, e_alen, e_iald, e_iast, e_bast, e_aast, e_if1, e_if2, e_goto, e_sw, e_iret, e_zret, e_lret, e_vret, e_obji, List.set_cons_zero, List.set_cons_succ, List.set_nil, Option.toList, List.nil_append, List.cons_append, List.length_cons, List.length_nil, true_or, or_true, true_and, and_true, nd_fold, Nat.one_mul, ↓m_1, ↓m_2, ↓m_3, ↓m_4, ↓m_9, ↓m_1000, nm_ne, nm_ne', nm_inj, nm_lt, nm_le, nm_gt, nm_ge, nm_xor, nm_add, Nat.add_sub_cancel, not_true_eq_false, not_false_eq_true, na_inj, na_le, na_lt, na_add, na_mul, na_and, na_or, na_xor, na_shl, na_shr, na_sub, i_0, i_1, i_2, i_3, i_4, i_5, i_6, i_7, i_8, i_9, i_10, i_12, i_16, i_20, i_21, i_32, i_40, i_60, ol_20]
  refine ⟨fun _ => ?_, fun hc => absurd hc (by omega)⟩
  refine kk_M_add_10 _ _ _ _ _ ?_
  simp (disch := omega) only [bk_M_add_10, e_cons, e_il, e_ll, e_al, e_lc0, e_lcs, e_ei, e_el, e_er, e_const, e_istore, e_lstore, e_astore, e_iinc, e_s1_0, e_s1_1, e_s1_2, e_s1_3, e_s1_4, e_s1_5, e_s1_6, e_s1_7, e_s1_8, e_s1_9, e_s1_10, e_s2_0, e_s2_1, e_s2_2, e_s2_3, e_s2_4, e_s2_5, e_s2_6, e_s2_7, e_s2_8, e_s2_9, e_s2_10, e_dln, e_dli, e_dlr, e_dll, e_b, e_bd, e_lb, e_lbd, e_lcmp, e_i2l, e_l2i, e_i2b, e_dupi, e_dupr, e_dup2, e_getf, e_at0, e_ats, e_putI, e_putL, e_putR, e_gets, e_alen, e_iald, e_iast, e_bast, e_aast, e_if1, e_if2, e_goto, e_sw, e_iret, e_zret, e_lret, e_vret, e_obji, List.set_cons_zero, List.set_cons_succ, List.set_nil, Option.toList, List.nil_append, List.cons_append, List.length_cons, List.length_nil, true_or, or_true, true_and, and_true, nd_fold, Nat.one_mul, ↓m_1, ↓m_2, ↓m_3, ↓m_4, ↓m_9, ↓m_1000, nm_ne, nm_ne', nm_inj, nm_lt, nm_le, nm_gt, nm_ge, nm_xor, nm_add, Nat.add_sub_cancel, not_true_eq_false, not_false_eq_true, na_inj, na_le, na_lt, na_add, na_mul, na_and, na_or, na_xor, na_shl, na_shr, na_sub, i_0, i_1, i_2, i_3, i_4, i_5, i_6, i_7, i_8, i_9, i_10, i_12, i_16, i_20, i_21, i_32, i_40, i_60, ol_20, ol_21, ol_22, os_0, os_1, os_2, os_3, os_4, os_5, os_6, os_7, os_8, os_9, obj_set_ne, kw1, kw2, s1, s2]
  refine ⟨fun h => ?_, fun h => ?_⟩
  · refine kk_M_add_50 _ _ _ _ _ ?_
    simp (disch := omega) only [bk_M_add_50, e_cons, e_il, e_ll, e_al, e_lc0, e_lcs, e_ei, e_el, e_er, e_const, e_istore, e_lstore, e_astore, e_iinc, e_s1_0, e_s1_1, e_s1_2, e_s1_3, e_s1_4, e_s1_5, e_s1_6, e_s1_7, e_s1_8, e_s1_9, e_s1_10, e_s2_0, e_s2_1, e_s2_2, e_s2_3, e_s2_4, e_s2_5, e_s2_6, e_s2_7, e_s2_8, e_s2_9, e_s2_10, e_dln, e_dli, e_dlr, e_dll, e_b, e_bd, e_lb, e_lbd, e_lcmp, e_i2l, e_l2i, e_i2b, e_dupi, e_dupr, e_dup2, e_getf, e_at0, e_ats, e_putI, e_putL, e_putR, e_gets, e_alen, e_iald, e_iast, e_bast, e_aast, e_if1, e_if2, e_goto, e_sw, e_iret, e_zret, e_lret, e_vret, e_obji, List.set_cons_zero, List.set_cons_succ, List.set_nil, Option.toList, List.nil_append, List.cons_append, List.length_cons, List.length_nil, true_or, or_true, true_and, and_true, nd_fold, Nat.one_mul, ↓m_1, ↓m_2, ↓m_3, ↓m_4, ↓m_9, ↓m_1000, nm_ne, nm_ne', nm_inj, nm_lt, nm_le, nm_gt, nm_ge, nm_xor, nm_add, Nat.add_sub_cancel, not_true_eq_false, not_false_eq_true, na_inj, na_le, na_lt, na_add, na_mul, na_and, na_or, na_xor, na_shl, na_shr, na_sub, i_0, i_1, i_2, i_3, i_4, i_5, i_6, i_7, i_8, i_9, i_10, i_12, i_16, i_20, i_21, i_32, i_40, i_60]
    exact go51 _ (by unfold ms_eff; rw [if_neg h])
  · exact go51 _ (by unfold ms_eff; rw [if_pos (by omega)])
end MA
