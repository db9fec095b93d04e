/-! the class: replay -/
section CP
variable {xs : List Value} {rw : List Int32 × List (List Int32)} {tx : List Int32 × List (List Int32)} {rm : List Nat × List Nat × List Nat × List Nat × List Int32 × List Int32 × List Int32 × List Int32} {rr : List Nat × Nat × Nat × Nat × Nat × Nat × List Int32} {nx : Nat} {mn : List Nat × List Nat × List Nat × List Nat × List Int32 × List Int32 × List Int32 × List Int32} {ru : List Nat × Nat × Nat × Nat × Nat × Nat × List Int32} {nw : List Nat × Nat × Nat × Nat × Nat × Nat × List Int32} {ra : List Nat × Nat × Nat × Nat × Nat × Nat × List Int32} {dd : List Nat × List Int32} {k0 : Bool × List Nat × List Int32} {k1 : Bool × List Nat × List Int32} {k2 : Bool × List Nat × List Int32} {fc : List Int32} {lf : Int32} {td : Int32} {tu : Int64} {tl : Int64} {τ : ax_H}
abbrev cfl (mn : List Nat × List Nat × List Nat × List Nat × List Int32 × List Int32 × List Int32 × List Int32) (g : ms_G) (ds : List Nat) : ms_G := ds.foldl (fun g d => ms_ug mn.1 mn.2.1 mn.2.2.2.1 d g) g
theorem cfl_wf {n : Nat} {g : ms_G} : ∀ {ds : List Nat} , gwf n g → gwf n (cfl mn g ds) := by
  intro ds
  induction ds generalizing g with
  | nil => exact fun h => h
  | cons d ds ih => exact fun h => ih (ms_ug_wf h)
theorem cfl_take {g : ms_G} {ds : List Nat} {k : Nat} (h : k < ds.length) : cfl mn g (ds.take (k + 1)) = ms_ug mn.1 mn.2.1 mn.2.2.2.1 (ds.getD k 0) (cfl mn g (ds.take k)) := by
  unfold cfl
  rw [List.take_succ, List.foldl_append]
  simp [List.getD_eq_getElem?_getD, h]
def cst (nw ru : List Nat × Nat × Nat × Nat × Nat × Nat × List Int32) : List Nat × Nat × Nat × Nat × Nat × Nat × List Int32 := (ru.1, ru.2.1, ru.2.2.1, nw.2.2.2.1, ru.2.2.2.2.1, ru.2.2.2.2.2.1, ru.2.2.2.2.2.2)
theorem c_C_replay (hW : mwf mn.1.length mn.1 mn.2.1 mn.2.2.1 mn.2.2.2.1) (hR : gwf mn.1.length (cgof ru)) (h1 : nw.1.length + nw.2.2.2.2.2.2.length = 6) (h2 : ru.1.length + ru.2.2.2.2.2.2.length = 6) (hl : dd.1.length ≤ 40) (hd : ∀ d, d ∈ dd.1 → d < 10 ∨ d - 10 < mn.1.length) : ax_ev mi_C_replay [.ref 2] (lay xs rw tx rm rr nx mn ru nw ra dd k0 k1 k2 fc lf td tu tl τ) none (lay xs rw tx rm rr nx mn ru (cset (cst nw ru) (cfl mn (cgof (cst nw ru)) dd.1)) ra dd k0 k1 k2 fc lf td tu tl τ) := by
  have hR0 : gwf mn.1.length (cgof (cst nw ru)) := hR
  refine ax_beg 1 rfl rfl ?_
  simp only [ax_ent, List.replicate, List.cons_append, List.nil_append, List.append_nil]
  generalize hG : cst nw ru = w0 at *
  have loop : ∀ (z k : Nat), k + z = dd.1.length → ax_go mi_C_replay (fun v' H'' => v' = none ∧ H'' = (lay xs rw tx rm rr nx mn ru (cset w0 (cfl mn (cgof w0) dd.1)) ra dd k0 k1 k2 fc lf td tu tl τ)) 13 (0, 0) [some (.ref 2), some (.int (nI k))] [] (lay xs rw tx rm rr nx mn ru (cset w0 (cfl mn (cgof w0) (dd.1.take k))) ra dd k0 k1 k2 fc lf td tu tl τ) := by
    intro z
    induction z with
    | zero =>
      intro k e
      have e' : k = dd.1.length := by omega
      refine kk_C_replay_13 _ _ _ _ _ ?_
      simp (disch := omega) only [bk_C_replay_13, e_cons, e_il, e_ll, e_al, e_lc0, e_lcs, e_ei, e_el, e_er, e_const, e_istore, e_lstore, e_astore, e_iinc, e_s1_0, e_s1_1, e_s1_2, e_s1_3, e_s1_4, e_s1_5, e_s1_6, e_s1_7, e_s1_8, e_s1_9, e_s1_10, e_s2_0, e_s2_1, e_s2_2, e_s2_3, e_s2_4, e_s2_5, e_s2_6, e_s2_7, e_s2_8, e_s2_9, e_s2_10, e_dln, e_dli, e_dlr, e_dll, e_b, e_bd, e_lb, e_lbd, e_lcmp, e_i2l, e_l2i, e_i2b, e_dupi, e_dupr, e_dup2, e_getf, e_at0, e_ats, e_putI, e_putL, e_putR, e_gets, e_alen, e_iald, e_iast, e_bast, e_aast, e_if1, e_if2, e_goto, e_sw, e_iret, e_zret, e_lret, e_vret, e_obji, List.set_cons_zero, List.set_cons_succ, List.set_nil, Option.toList, List.nil_append, List.cons_append, List.length_cons, List.length_nil, true_or, or_true, true_and, and_true, nd_fold, Nat.one_mul, ↓m_1, ↓m_2, ↓m_3, ↓m_4, ↓m_9, ↓m_1000, nm_ne, nm_ne', nm_inj, nm_lt, nm_le, nm_gt, nm_ge, nm_xor, nm_add, Nat.add_sub_cancel, not_true_eq_false, not_false_eq_true, na_inj, na_le, na_lt, na_add, na_mul, na_and, na_or, na_xor, na_shl, na_shr, na_sub, i_0, i_1, i_2, i_3, i_4, i_5, i_6, i_7, i_8, i_9, i_10, i_12, i_16, i_20, i_21, i_32, i_40, i_60, oq_2, oq_38]
      refine ⟨fun _ => ?_, fun g => absurd (show dd.1.length ≤ k by omega) g⟩
      refine kk_C_replay_50 _ _ _ _ _ ?_
      simp (disch := omega) only [bk_C_replay_50, e_cons, e_il, e_ll, e_al, e_lc0, e_lcs, e_ei, e_el, e_er, e_const, e_istore, e_lstore, e_astore, e_iinc, e_s1_0, e_s1_1, e_s1_2, e_s1_3, e_s1_4, e_s1_5, e_s1_6, e_s1_7, e_s1_8, e_s1_9, e_s1_10, e_s2_0, e_s2_1, e_s2_2, e_s2_3, e_s2_4, e_s2_5, e_s2_6, e_s2_7, e_s2_8, e_s2_9, e_s2_10, e_dln, e_dli, e_dlr, e_dll, e_b, e_bd, e_lb, e_lbd, e_lcmp, e_i2l, e_l2i, e_i2b, e_dupi, e_dupr, e_dup2, e_getf, e_at0, e_ats, e_putI, e_putL, e_putR, e_gets, e_alen, e_iald, e_iast, e_bast, e_aast, e_if1, e_if2, e_goto, e_sw, e_iret, e_zret, e_lret, e_vret, e_obji, List.set_cons_zero, List.set_cons_succ, List.set_nil, Option.toList, List.nil_append, List.cons_append, List.length_cons, List.length_nil, true_or, or_true, true_and, and_true, nd_fold, Nat.one_mul, ↓m_1, ↓m_2, ↓m_3, ↓m_4, ↓m_9, ↓m_1000, nm_ne, nm_ne', nm_inj, nm_lt, nm_le, nm_gt, nm_ge, nm_xor, nm_add, Nat.add_sub_cancel, not_true_eq_false, not_false_eq_true, na_inj, na_le, na_lt, na_add, na_mul, na_and, na_or, na_xor, na_shl, na_shr, na_sub, i_0, i_1, i_2, i_3, i_4, i_5, i_6, i_7, i_8, i_9, i_10, i_12, i_16, i_20, i_21, i_32, i_40, i_60]
      rw [e', List.take_length]
    | succ z ih =>
      intro k e
      have hdk : dd.1.getD k 0 < 10 ∨ dd.1.getD k 0 - 10 < mn.1.length := by
        refine hd _ ?_
        rw [List.getD_eq_getElem?_getD, List.getElem?_eq_getElem (by omega)]
        exact List.getElem_mem _
      have hu := fun (τ : ax_H) => c_undergo (xs := xs) (rw := rw) (tx := tx) (rm := rm) (rr := rr) (nx := nx) (mn := mn) (ru := ru) (nw := cset w0 (cfl mn (cgof w0) (dd.1.take k))) (ra := ra) (dd := dd) (k0 := k0) (k1 := k1) (k2 := k2) (fc := fc) (lf := lf) (td := td) (tu := tu) (tl := tl) (τ := τ) (d := dd.1.getD k 0) hW (cfl_wf hR0) hdk
      refine kk_C_replay_13 _ _ _ _ _ ?_
      simp (disch := omega) only [bk_C_replay_13, e_cons, e_il, e_ll, e_al, e_lc0, e_lcs, e_ei, e_el, e_er, e_const, e_istore, e_lstore, e_astore, e_iinc, e_s1_0, e_s1_1, e_s1_2, e_s1_3, e_s1_4, e_s1_5, e_s1_6, e_s1_7, e_s1_8, e_s1_9, e_s1_10, e_s2_0, e_s2_1, e_s2_2, e_s2_3, e_s2_4, e_s2_5, e_s2_6, e_s2_7, e_s2_8, e_s2_9, e_s2_10, e_dln, e_dli, e_dlr, e_dll, e_b, e_bd, e_lb, e_lbd, e_lcmp, e_i2l, e_l2i, e_i2b, e_dupi, e_dupr, e_dup2, e_getf, e_at0, e_ats, e_putI, e_putL, e_putR, e_gets, e_alen, e_iald, e_iast, e_bast, e_aast, e_if1, e_if2, e_goto, e_sw, e_iret, e_zret, e_lret, e_vret, e_obji, List.set_cons_zero, List.set_cons_succ, List.set_nil, Option.toList, List.nil_append, List.cons_append, List.length_cons, List.length_nil, true_or, or_true, true_and, and_true, nd_fold, Nat.one_mul, ↓m_1, ↓m_2, ↓m_3, ↓m_4, ↓m_9, ↓m_1000, nm_ne, nm_ne', nm_inj, nm_lt, nm_le, nm_gt, nm_ge, nm_xor, nm_add, Nat.add_sub_cancel, not_true_eq_false, not_false_eq_true, na_inj, na_le, na_lt, na_add, na_mul, na_and, na_or, na_xor, na_shl, na_shr, na_sub, i_0, i_1, i_2, i_3, i_4, i_5, i_6, i_7, i_8, i_9, i_10, i_12, i_16, i_20, i_21, i_32, i_40, i_60, oq_2, oq_38, oq_39, gv_rd]
      refine ⟨fun g => absurd g (by omega), fun _ => ?_⟩
      refine k_callV (show ax_get (lay xs rw tx rm rr nx mn ru (cset w0 (cfl mn (cgof w0) (dd.1.take k))) ra dd k0 k1 k2 fc lf td tu tl τ) 34 = some (3, _) from rfl) (hu τ) rfl rfl rfl ?_
      rw [show cset (cset w0 (cfl mn (cgof w0) (dd.1.take k))) (ms_ug mn.1 mn.2.1 mn.2.2.2.1 (dd.1.getD k 0) (cgof (cset w0 (cfl mn (cgof w0) (dd.1.take k))))) = cset w0 (cfl mn (cgof w0) (dd.1.take (k + 1))) by rw [cfl_take (by omega)]; rfl]
      simp (disch := omega) only [e_cons, e_il, e_ll, e_al, e_lc0, e_lcs, e_ei, e_el, e_er, e_const, e_istore, e_lstore, e_astore, e_iinc, e_s1_0, e_s1_1, e_s1_2, e_s1_3, e_s1_4, e_s1_5, e_s1_6, e_s1_7, e_s1_8, e_s1_9, e_s1_10, e_s2_0, e_s2_1, e_s2_2, e_s2_3, e_s2_4, e_s2_5, e_s2_6, e_s2_7, e_s2_8, e_s2_9, e_s2_10, e_dln, e_dli, e_dlr, e_dll, e_b, e_bd, e_lb, e_lbd, e_lcmp, e_i2l, e_l2i, e_i2b, e_dupi, e_dupr, e_dup2, e_getf, e_at0, e_ats, e_putI, e_putL, e_putR, e_gets, e_alen, e_iald, e_iast, e_bast, e_aast, e_if1, e_if2, e_goto, e_sw, e_iret, e_zret, e_lret, e_vret, e_obji, List.set_cons_zero, List.set_cons_succ, List.set_nil, Option.toList, List.nil_append, List.cons_append, List.length_cons, List.length_nil, true_or, or_true, true_and, and_true, nd_fold, Nat.one_mul, ↓m_1, ↓m_2, ↓m_3, ↓m_4, ↓m_9, ↓m_1000, nm_ne, nm_ne', nm_inj, nm_lt, nm_le, nm_gt, nm_ge, nm_xor, nm_add, Nat.add_sub_cancel, not_true_eq_false, not_false_eq_true, na_inj, na_le, na_lt, na_add, na_mul, na_and, na_or, na_xor, na_shl, na_shr, na_sub, i_0, i_1, i_2, i_3, i_4, i_5, i_6, i_7, i_8, i_9, i_10, i_12, i_16, i_20, i_21, i_32, i_40, i_60]
      exact ih (k + 1) (by omega)
  refine kk_C_replay_0 _ _ _ _ _ ?_
  simp (disch := omega) only [bk_C_replay_0, e_cons, e_il, e_ll, e_al, e_lc0, e_lcs, e_ei, e_el, e_er, e_const, e_istore, e_lstore, e_astore, e_iinc, e_s1_0, e_s1_1, e_s1_2, e_s1_3, e_s1_4, e_s1_5, e_s1_6, e_s1_7, e_s1_8, e_s1_9, e_s1_10, e_s2_0, e_s2_1, e_s2_2, e_s2_3, e_s2_4, e_s2_5, e_s2_6, e_s2_7, e_s2_8, e_s2_9, e_s2_10, e_dln, e_dli, e_dlr, e_dll, e_b, e_bd, e_lb, e_lbd, e_lcmp, e_i2l, e_l2i, e_i2b, e_dupi, e_dupr, e_dup2, e_getf, e_at0, e_ats, e_putI, e_putL, e_putR, e_gets, e_alen, e_iald, e_iast, e_bast, e_aast, e_if1, e_if2, e_goto, e_sw, e_iret, e_zret, e_lret, e_vret, e_obji, List.set_cons_zero, List.set_cons_succ, List.set_nil, Option.toList, List.nil_append, List.cons_append, List.length_cons, List.length_nil, true_or, or_true, true_and, and_true, nd_fold, Nat.one_mul, ↓m_1, ↓m_2, ↓m_3, ↓m_4, ↓m_9, ↓m_1000, nm_ne, nm_ne', nm_inj, nm_lt, nm_le, nm_gt, nm_ge, nm_xor, nm_add, Nat.add_sub_cancel, not_true_eq_false, not_false_eq_true, na_inj, na_le, na_lt, na_add, na_mul, na_and, na_or, na_xor, na_shl, na_shr, na_sub, i_0, i_1, i_2, i_3, i_4, i_5, i_6, i_7, i_8, i_9, i_10, i_12, i_16, i_20, i_21, i_32, i_40, i_60, oq_2]
  refine k_callV (show ax_get (lay xs rw tx rm rr nx mn ru nw ra dd k0 k1 k2 fc lf td tu tl τ) 34 = some (3, _) from rfl) (c_become_now h1 h2) rfl rfl rfl ?_
  rw [show (ru.1, ru.2.1, ru.2.2.1, nw.2.2.2.1, ru.2.2.2.2.1, ru.2.2.2.2.2.1, ru.2.2.2.2.2.2) = w0 from hG]
  simp (disch := omega) only [e_cons, e_il, e_ll, e_al, e_lc0, e_lcs, e_ei, e_el, e_er, e_const, e_istore, e_lstore, e_astore, e_iinc, e_s1_0, e_s1_1, e_s1_2, e_s1_3, e_s1_4, e_s1_5, e_s1_6, e_s1_7, e_s1_8, e_s1_9, e_s1_10, e_s2_0, e_s2_1, e_s2_2, e_s2_3, e_s2_4, e_s2_5, e_s2_6, e_s2_7, e_s2_8, e_s2_9, e_s2_10, e_dln, e_dli, e_dlr, e_dll, e_b, e_bd, e_lb, e_lbd, e_lcmp, e_i2l, e_l2i, e_i2b, e_dupi, e_dupr, e_dup2, e_getf, e_at0, e_ats, e_putI, e_putL, e_putR, e_gets, e_alen, e_iald, e_iast, e_bast, e_aast, e_if1, e_if2, e_goto, e_sw, e_iret, e_zret, e_lret, e_vret, e_obji, List.set_cons_zero, List.set_cons_succ, List.set_nil, Option.toList, List.nil_append, List.cons_append, List.length_cons, List.length_nil, true_or, or_true, true_and, and_true, nd_fold, Nat.one_mul, ↓m_1, ↓m_2, ↓m_3, ↓m_4, ↓m_9, ↓m_1000, nm_ne, nm_ne', nm_inj, nm_lt, nm_le, nm_gt, nm_ge, nm_xor, nm_add, Nat.add_sub_cancel, not_true_eq_false, not_false_eq_true, na_inj, na_le, na_lt, na_add, na_mul, na_and, na_or, na_xor, na_shl, na_shr, na_sub, i_0, i_1, i_2, i_3, i_4, i_5, i_6, i_7, i_8, i_9, i_10, i_12, i_16, i_20, i_21, i_32, i_40, i_60]
  exact loop dd.1.length 0 (by omega)
theorem lay_dd {n : Nat} (h : n ≤ dd.1.length) : ax_set (lay xs rw tx rm rr nx mn ru nw ra dd k0 k1 k2 fc lf td tu tl τ) 38 (0, [.ref 39, .int (nI n)]) = (lay xs rw tx rm rr nx mn ru nw ra (dd.1.take n, (dd.1.drop n).map nI ++ dd.2) k0 k1 k2 fc lf td tu tl τ) := by
  have e : gv (dd.1.take n) ((dd.1.drop n).map nI ++ dd.2) = gv dd.1 dd.2 := by
    unfold gv
    rw [List.map_append, List.map_map, ← List.append_assoc]
    congr 1
    conv => rhs; rw [← List.take_append_drop n dd.1, List.map_append]
    rfl
  have e2 : (dd.1.take n).length = n := by rw [List.length_take]; omega
  unfold lay
  dsimp only
  rw [e, e2]
  rfl
end CP
