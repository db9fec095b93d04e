/-! what is made: constructors -/
def zc (n : Nat) : List Value := List.replicate n (.int 0)
section EN
variable {n : ax_K} {j : ax_J} {R : ax_R} {κ : ax_B} {ls : ax_L} {r : List Value} {H : ax_H} {lim : ax_B} {z k : Nat}
theorem e_new {ci : Nat} {df : List Value} : ai_new lim ci df n j R κ ls r H = (κ.1 + 1 ≤ lim.1 ∧ κ.2 + df.length ≤ lim.2 ∧ n (κ.1 + 1, κ.2 + df.length) ls (.ref H.length :: r) (H ++ [(ci, df)])) := rfl
theorem e_newa {tg : Nat} (h : k ≤ 100000) : ai_newa lim tg n j R κ ls (.int (nI k) :: r) H = (κ.1 + 1 ≤ lim.1 ∧ κ.2 + k ≤ lim.2 ∧ n (κ.1 + 1, κ.2 + k) ls (.ref H.length :: r) (H ++ [(tg, zc k)])) := by
  have h1 : ¬ nI k < 0 := nI_pos (by omega)
  have h2 : (nI k).toNatClampNeg = k := nI_clamp (by omega)
  unfold ai_newa
  refine propext ⟨fun ⟨k', r', e, a1, a2, a3, a4, a5⟩ => ?_, fun ⟨a3, a4, a5⟩ => ⟨nI k, r, rfl, h1, by omega, a3, by rw [h2]; exact a4, by rw [h2]; exact a5⟩⟩
  cases e
  rw [h2] at a4 a5
  exact ⟨a3, a4, a5⟩
theorem e_anew (h : k ≤ 100000) : ai_anew lim n j R κ ls (.int (nI k) :: r) H = (κ.1 + 1 ≤ lim.1 ∧ κ.2 + k ≤ lim.2 ∧ n (κ.1 + 1, κ.2 + k) ls (.ref H.length :: r) (H ++ [(24, List.replicate k .null)])) := by
  have h1 : ¬ nI k < 0 := nI_pos (by omega)
  have h2 : (nI k).toNatClampNeg = k := nI_clamp (by omega)
  unfold ai_anew
  refine propext ⟨fun ⟨k', r', e, a1, a2, a3, a4, a5⟩ => ?_, fun ⟨a3, a4, a5⟩ => ⟨nI k, r, rfl, h1, by omega, a3, by rw [h2]; exact a4, by rw [h2]; exact a5⟩⟩
  cases e
  rw [h2] at a4 a5
  exact ⟨a3, a4, a5⟩
theorem e_mna (h : k ≤ 100000) (hz : z ≤ 100000) : ai_mna lim n j R κ ls (.int (nI k) :: .int (nI z) :: r) H = (κ.1 + (1 + z) ≤ lim.1 ∧ κ.2 + (z + z * k) ≤ lim.2 ∧ n (κ.1 + 1 + z, κ.2 + z + z * k) ls (.ref H.length :: r) (H ++ (23, (List.range z).map (fun i => Value.ref (H.length + 1 + i))) :: List.replicate z (21, zc k))) := by
  have h1 : ¬ nI k < 0 := nI_pos (by omega)
  have h2 : (nI k).toNatClampNeg = k := nI_clamp (by omega)
  have h3 : ¬ nI z < 0 := nI_pos (by omega)
  have h4 : (nI z).toNatClampNeg = z := nI_clamp (by omega)
  unfold ai_mna
  refine propext ⟨fun ⟨k', z', r', e, a1, a2, a3, a4, a5, a6, a7⟩ => ?_, fun ⟨a5, a6, a7⟩ => ⟨nI k, nI z, r, rfl, h3, h1, by omega, by omega, by rw [h4]; exact a5, by rw [h4, h2]; exact a6, by rw [h4, h2]; exact a7⟩⟩
  cases e
  rw [h4] at a5
  rw [h4, h2] at a6 a7
  exact ⟨a5, a6, a7⟩
end EN
section AP
variable {H t l : ax_H} {c c' : ax_C} {ci k : Nat} {fs : List Value} {P : List Value → Prop}
theorem ap_get0 : ax_get (H ++ c :: t) H.length = some c := by simp [ax_get]
theorem ap_obj0 : ax_obj (H ++ (ci, fs) :: t) H.length ci P = P fs := ax_obj_of ap_get0
theorem ap_set0 : ax_set (H ++ c :: t) H.length c' = H ++ c' :: t := by simp [ax_set]
theorem ap_get : ax_get (H ++ l) (H.length + k) = ax_get l k := by
  unfold ax_get
  rw [List.getElem?_append_right (by omega), Nat.add_sub_cancel_left]
theorem ap_obj : ax_obj (H ++ l) (H.length + k) ci P = ax_obj l k ci P := by unfold ax_obj; rw [ap_get]
theorem ap_set : ax_set (H ++ l) (H.length + k) c = H ++ ax_set l k c := by
  unfold ax_set
  rw [List.set_append_right _ _ (by omega), Nat.add_sub_cancel_left]
end AP
theorem zc_iv (n : Nat) : zc n = iv (List.replicate n 0) := by unfold zc iv; rw [List.map_replicate]
theorem zc_gv (n : Nat) : zc n = gv [] (List.replicate n 0) := by unfold zc gv; rw [List.map_nil, List.nil_append, List.map_replicate]
theorem zc_gl (n : Nat) : zc n = gv (List.replicate n 0) [] := by unfold zc gv; rw [List.map_nil, List.append_nil, List.map_replicate, i_0]
section IN
variable {H : ax_H}
theorem c_D_init {x : Int32} : ax_ev mi_D_init [.ref H.length, .int x] (H ++ [(0, [.null, .int (nI 0)])]) none (H ++ [(0, [.ref (H.length + 1), .int x]), (21, zc 40)]) := by
  refine ax_beg 0 rfl rfl ?_
  simp only [ax_ent, List.replicate, List.cons_append, List.nil_append, List.append_nil]
  refine kk_D_init_0 _ _ _ _ _ ?_
  simp (disch := omega) only [bk_D_init_0, e_cons, e_il, e_ll, e_al, e_lc0, e_lcs, e_ei, e_el, e_er, e_const, e_istore, e_lstore, e_astore, e_iinc, e_s1_0, e_s1_1, e_s1_2, e_s1_3, e_s1_4, e_s1_5, e_s1_6, e_s1_7, e_s1_8, e_s1_9, e_s1_10, e_s2_0, e_s2_1, e_s2_2, e_s2_3, e_s2_4, e_s2_5, e_s2_6, e_s2_7, e_s2_8, e_s2_9, e_s2_10, e_dln, e_dli, e_dlr, e_dll, e_b, e_bd, e_lb, e_lbd, e_lcmp, e_i2l, e_l2i, e_i2b, e_dupi, e_dupr, e_dup2, e_getf, e_at0, e_ats, e_putI, e_putL, e_putR, e_gets, e_alen, e_iald, e_iast, e_bast, e_aast, e_if1, e_if2, e_goto, e_sw, e_iret, e_zret, e_lret, e_vret, e_obji, List.set_cons_zero, List.set_cons_succ, List.set_nil, Option.toList, List.nil_append, List.cons_append, List.length_cons, List.length_nil, true_or, or_true, true_and, and_true, nd_fold, Nat.one_mul, ↓m_1, ↓m_2, ↓m_3, ↓m_4, ↓m_9, ↓m_1000, nm_ne, nm_ne', nm_inj, nm_lt, nm_le, nm_gt, nm_ge, nm_xor, nm_add, Nat.add_sub_cancel, not_true_eq_false, not_false_eq_true, na_inj, na_le, na_lt, na_add, na_mul, na_and, na_or, na_xor, na_shl, na_shr, na_sub, i_0, i_1, i_2, i_3, i_4, i_5, i_6, i_7, i_8, i_9, i_10, i_12, i_16, i_20, i_21, i_32, i_40, i_60, e_newa, ap_obj0, ap_set0, List.append_assoc, List.length_append, Nat.zero_le, Nat.reduceAdd, Nat.reduceLeDiff, Nat.le_refl, Nat.zero_add]
  exact ⟨_, rfl⟩
theorem c_G_init : ax_ev mi_G_init [.ref H.length] (H ++ [(3, [.null, .int (nI 0), .int (nI 0), .int (nI 0), .int (nI 0), .int (nI 0)])]) none (H ++ [(3, [.ref (H.length + 1), .int (nI 0), .int (nI 0), .int (nI 0), .int (nI 0), .int (nI 0)]), (21, zc 6)]) := by
  refine ax_beg 0 rfl rfl ?_
  simp only [ax_ent, List.replicate, List.cons_append, List.nil_append, List.append_nil]
  refine kk_G_init_0 _ _ _ _ _ ?_
  simp (disch := omega) only [bk_G_init_0, e_cons, e_il, e_ll, e_al, e_lc0, e_lcs, e_ei, e_el, e_er, e_const, e_istore, e_lstore, e_astore, e_iinc, e_s1_0, e_s1_1, e_s1_2, e_s1_3, e_s1_4, e_s1_5, e_s1_6, e_s1_7, e_s1_8, e_s1_9, e_s1_10, e_s2_0, e_s2_1, e_s2_2, e_s2_3, e_s2_4, e_s2_5, e_s2_6, e_s2_7, e_s2_8, e_s2_9, e_s2_10, e_dln, e_dli, e_dlr, e_dll, e_b, e_bd, e_lb, e_lbd, e_lcmp, e_i2l, e_l2i, e_i2b, e_dupi, e_dupr, e_dup2, e_getf, e_at0, e_ats, e_putI, e_putL, e_putR, e_gets, e_alen, e_iald, e_iast, e_bast, e_aast, e_if1, e_if2, e_goto, e_sw, e_iret, e_zret, e_lret, e_vret, e_obji, List.set_cons_zero, List.set_cons_succ, List.set_nil, Option.toList, List.nil_append, List.cons_append, List.length_cons, List.length_nil, true_or, or_true, true_and, and_true, nd_fold, Nat.one_mul, ↓m_1, ↓m_2, ↓m_3, ↓m_4, ↓m_9, ↓m_1000, nm_ne, nm_ne', nm_inj, nm_lt, nm_le, nm_gt, nm_ge, nm_xor, nm_add, Nat.add_sub_cancel, not_true_eq_false, not_false_eq_true, na_inj, na_le, na_lt, na_add, na_mul, na_and, na_or, na_xor, na_shl, na_shr, na_sub, i_0, i_1, i_2, i_3, i_4, i_5, i_6, i_7, i_8, i_9, i_10, i_12, i_16, i_20, i_21, i_32, i_40, i_60, e_newa, ap_obj0, ap_set0, List.append_assoc, List.length_append, Nat.zero_le, Nat.reduceAdd, Nat.reduceLeDiff, Nat.le_refl, Nat.zero_add]
  exact ⟨_, rfl⟩
theorem c_M_init : ax_ev mi_M_init [.ref H.length] (H ++ [(1, [.null, .null, .null, .null, .int (nI 0)])]) none (H ++ [(1, [.ref (H.length + 1), .ref (H.length + 2), .ref (H.length + 3), .ref (H.length + 4), .int (nI 0)]), (21, zc 6), (21, zc 6), (21, zc 6), (21, zc 6)]) := by
  refine ax_beg 0 rfl rfl ?_
  simp only [ax_ent, List.replicate, List.cons_append, List.nil_append, List.append_nil]
  refine kk_M_init_0 _ _ _ _ _ ?_
  simp (disch := omega) only [bk_M_init_0, e_cons, e_il, e_ll, e_al, e_lc0, e_lcs, e_ei, e_el, e_er, e_const, e_istore, e_lstore, e_astore, e_iinc, e_s1_0, e_s1_1, e_s1_2, e_s1_3, e_s1_4, e_s1_5, e_s1_6, e_s1_7, e_s1_8, e_s1_9, e_s1_10, e_s2_0, e_s2_1, e_s2_2, e_s2_3, e_s2_4, e_s2_5, e_s2_6, e_s2_7, e_s2_8, e_s2_9, e_s2_10, e_dln, e_dli, e_dlr, e_dll, e_b, e_bd, e_lb, e_lbd, e_lcmp, e_i2l, e_l2i, e_i2b, e_dupi, e_dupr, e_dup2, e_getf, e_at0, e_ats, e_putI, e_putL, e_putR, e_gets, e_alen, e_iald, e_iast, e_bast, e_aast, e_if1, e_if2, e_goto, e_sw, e_iret, e_zret, e_lret, e_vret, e_obji, List.set_cons_zero, List.set_cons_succ, List.set_nil, Option.toList, List.nil_append, List.cons_append, List.length_cons, List.length_nil, true_or, or_true, true_and, and_true, nd_fold, Nat.one_mul, ↓m_1, ↓m_2, ↓m_3, ↓m_4, ↓m_9, ↓m_1000, nm_ne, nm_ne', nm_inj, nm_lt, nm_le, nm_gt, nm_ge, nm_xor, nm_add, Nat.add_sub_cancel, not_true_eq_false, not_false_eq_true, na_inj, na_le, na_lt, na_add, na_mul, na_and, na_or, na_xor, na_shl, na_shr, na_sub, i_0, i_1, i_2, i_3, i_4, i_5, i_6, i_7, i_8, i_9, i_10, i_12, i_16, i_20, i_21, i_32, i_40, i_60, e_newa, ap_obj0, ap_set0, List.append_assoc, List.length_append, Nat.zero_le, Nat.reduceAdd, Nat.reduceLeDiff, Nat.le_refl, Nat.zero_add]
  exact ⟨_, rfl⟩
theorem c_E_init : ax_ev mi_E_init [.ref H.length] (H ++ [(2, [.null, .null, .int (nI 0)])]) none (H ++ [(2, [.ref (H.length + 1), .ref (H.length + 6), .int (nI 0)]), (1, [.ref (H.length + 2), .ref (H.length + 3), .ref (H.length + 4), .ref (H.length + 5), .int (nI 0)]), (21, zc 6), (21, zc 6), (21, zc 6), (21, zc 6), (3, [.ref (H.length + 7), .int (nI 0), .int (nI 0), .int (nI 0), .int (nI 0), .int (nI 0)]), (21, zc 6)]) := by
  have m := c_M_init (H := H ++ [(2, [.null, .null, .int (nI 0)])])
  have g := c_G_init (H := H ++ [(2, [.ref (H.length + 1), .null, .int (nI 0)]), (1, [.ref (H.length + 2), .ref (H.length + 3), .ref (H.length + 4), .ref (H.length + 5), .int (nI 0)]), (21, zc 6), (21, zc 6), (21, zc 6), (21, zc 6)])
  simp only [List.append_assoc, List.cons_append, List.nil_append, List.length_append, List.length_cons, List.length_nil, Nat.reduceAdd, Nat.zero_add, Nat.add_assoc] at m g
  refine ax_beg 0 rfl rfl ?_
  simp only [ax_ent, List.replicate, List.cons_append, List.nil_append, List.append_nil]
  refine kk_E_init_0 _ _ _ _ _ ?_
  simp (disch := omega) only [bk_E_init_0, e_cons, e_il, e_ll, e_al, e_lc0, e_lcs, e_ei, e_el, e_er, e_const, e_istore, e_lstore, e_astore, e_iinc, e_s1_0, e_s1_1, e_s1_2, e_s1_3, e_s1_4, e_s1_5, e_s1_6, e_s1_7, e_s1_8, e_s1_9, e_s1_10, e_s2_0, e_s2_1, e_s2_2, e_s2_3, e_s2_4, e_s2_5, e_s2_6, e_s2_7, e_s2_8, e_s2_9, e_s2_10, e_dln, e_dli, e_dlr, e_dll, e_b, e_bd, e_lb, e_lbd, e_lcmp, e_i2l, e_l2i, e_i2b, e_dupi, e_dupr, e_dup2, e_getf, e_at0, e_ats, e_putI, e_putL, e_putR, e_gets, e_alen, e_iald, e_iast, e_bast, e_aast, e_if1, e_if2, e_goto, e_sw, e_iret, e_zret, e_lret, e_vret, e_obji, List.set_cons_zero, List.set_cons_succ, List.set_nil, Option.toList, List.nil_append, List.cons_append, List.length_cons, List.length_nil, true_or, or_true, true_and, and_true, nd_fold, Nat.one_mul, ↓m_1, ↓m_2, ↓m_3, ↓m_4, ↓m_9, ↓m_1000, nm_ne, nm_ne', nm_inj, nm_lt, nm_le, nm_gt, nm_ge, nm_xor, nm_add, Nat.add_sub_cancel, not_true_eq_false, not_false_eq_true, na_inj, na_le, na_lt, na_add, na_mul, na_and, na_or, na_xor, na_shl, na_shr, na_sub, i_0, i_1, i_2, i_3, i_4, i_5, i_6, i_7, i_8, i_9, i_10, i_12, i_16, i_20, i_21, i_32, i_40, i_60, e_new, ap_obj0, ap_set0, List.append_assoc, List.length_append, Nat.zero_le, Nat.reduceAdd, Nat.reduceLeDiff, Nat.le_refl, Nat.zero_add]
  refine k_callI m rfl rfl rfl (by decide) (by decide) ?_
  simp (disch := omega) only [e_cons, e_il, e_ll, e_al, e_lc0, e_lcs, e_ei, e_el, e_er, e_const, e_istore, e_lstore, e_astore, e_iinc, e_s1_0, e_s1_1, e_s1_2, e_s1_3, e_s1_4, e_s1_5, e_s1_6, e_s1_7, e_s1_8, e_s1_9, e_s1_10, e_s2_0, e_s2_1, e_s2_2, e_s2_3, e_s2_4, e_s2_5, e_s2_6, e_s2_7, e_s2_8, e_s2_9, e_s2_10, e_dln, e_dli, e_dlr, e_dll, e_b, e_bd, e_lb, e_lbd, e_lcmp, e_i2l, e_l2i, e_i2b, e_dupi, e_dupr, e_dup2, e_getf, e_at0, e_ats, e_putI, e_putL, e_putR, e_gets, e_alen, e_iald, e_iast, e_bast, e_aast, e_if1, e_if2, e_goto, e_sw, e_iret, e_zret, e_lret, e_vret, e_obji, List.set_cons_zero, List.set_cons_succ, List.set_nil, Option.toList, List.nil_append, List.cons_append, List.length_cons, List.length_nil, true_or, or_true, true_and, and_true, nd_fold, Nat.one_mul, ↓m_1, ↓m_2, ↓m_3, ↓m_4, ↓m_9, ↓m_1000, nm_ne, nm_ne', nm_inj, nm_lt, nm_le, nm_gt, nm_ge, nm_xor, nm_add, Nat.add_sub_cancel, not_true_eq_false, not_false_eq_true, na_inj, na_le, na_lt, na_add, na_mul, na_and, na_or, na_xor, na_shl, na_shr, na_sub, i_0, i_1, i_2, i_3, i_4, i_5, i_6, i_7, i_8, i_9, i_10, i_12, i_16, i_20, i_21, i_32, i_40, i_60, e_new, ap_obj0, ap_set0, List.append_assoc, List.length_append, Nat.zero_le, Nat.reduceAdd, Nat.reduceLeDiff, Nat.le_refl, Nat.zero_add]
  refine ⟨by decide, by decide, ?_⟩
  refine k_callI g rfl rfl rfl (by decide) (by decide) ?_
  simp (disch := omega) only [e_cons, e_il, e_ll, e_al, e_lc0, e_lcs, e_ei, e_el, e_er, e_const, e_istore, e_lstore, e_astore, e_iinc, e_s1_0, e_s1_1, e_s1_2, e_s1_3, e_s1_4, e_s1_5, e_s1_6, e_s1_7, e_s1_8, e_s1_9, e_s1_10, e_s2_0, e_s2_1, e_s2_2, e_s2_3, e_s2_4, e_s2_5, e_s2_6, e_s2_7, e_s2_8, e_s2_9, e_s2_10, e_dln, e_dli, e_dlr, e_dll, e_b, e_bd, e_lb, e_lbd, e_lcmp, e_i2l, e_l2i, e_i2b, e_dupi, e_dupr, e_dup2, e_getf, e_at0, e_ats, e_putI, e_putL, e_putR, e_gets, e_alen, e_iald, e_iast, e_bast, e_aast, e_if1, e_if2, e_goto, e_sw, e_iret, e_zret, e_lret, e_vret, e_obji, List.set_cons_zero, List.set_cons_succ, List.set_nil, Option.toList, List.nil_append, List.cons_append, List.length_cons, List.length_nil, true_or, or_true, true_and, and_true, nd_fold, Nat.one_mul, ↓m_1, ↓m_2, ↓m_3, ↓m_4, ↓m_9, ↓m_1000, nm_ne, nm_ne', nm_inj, nm_lt, nm_le, nm_gt, nm_ge, nm_xor, nm_add, Nat.add_sub_cancel, not_true_eq_false, not_false_eq_true, na_inj, na_le, na_lt, na_add, na_mul, na_and, na_or, na_xor, na_shl, na_shr, na_sub, i_0, i_1, i_2, i_3, i_4, i_5, i_6, i_7, i_8, i_9, i_10, i_12, i_16, i_20, i_21, i_32, i_40, i_60, e_new, ap_obj0, ap_set0, List.append_assoc, List.length_append, Nat.zero_le, Nat.reduceAdd, Nat.reduceLeDiff, Nat.le_refl, Nat.zero_add]
theorem c_S_init6 : ax_ev mi_S_init [.ref H.length, .int (nI 6), .int (nI 40)] (H ++ [(4, [.int (nI 0), .null, .null])]) none (H ++ [(4, [.int (nI 40), .ref (H.length + 1), .ref (H.length + 8)]), (23, [.ref (H.length + 2), .ref (H.length + 3), .ref (H.length + 4), .ref (H.length + 5), .ref (H.length + 6), .ref (H.length + 7)]), (21, zc 40), (21, zc 40), (21, zc 40), (21, zc 40), (21, zc 40), (21, zc 40), (21, iv (List.replicate 6 (nm 1)))]) := by
  have rg : (List.range 6).map (fun i => Value.ref (H.length + 1 + 1 + i)) = [.ref (H.length + 2), .ref (H.length + 3), .ref (H.length + 4), .ref (H.length + 5), .ref (H.length + 6), .ref (H.length + 7)] := rfl
  have fl := c_fill2 (a := H.length + 8) (v := nm 1) (xs := List.replicate 6 0) (H := H ++ [(4, [.int (nI 40), .ref (H.length + 1), .ref (H.length + 8)]), (23, [.ref (H.length + 2), .ref (H.length + 3), .ref (H.length + 4), .ref (H.length + 5), .ref (H.length + 6), .ref (H.length + 7)]), (21, zc 40), (21, zc 40), (21, zc 40), (21, zc 40), (21, zc 40), (21, zc 40), (21, zc 6)]) (by rw [ap_get, ← zc_iv]; rfl) (by rw [List.length_replicate]; omega)
  rw [ap_set, List.length_replicate] at fl
  generalize hz : iv (List.replicate 6 (nm 1)) = Z at *
  refine ax_beg 0 rfl rfl ?_
  simp only [ax_ent, List.replicate, List.cons_append, List.nil_append, List.append_nil]
  refine kk_S_init_0 _ _ _ _ _ ?_
  simp (disch := omega) only [bk_S_init_0, e_cons, e_il, e_ll, e_al, e_lc0, e_lcs, e_ei, e_el, e_er, e_const, e_istore, e_lstore, e_astore, e_iinc, e_s1_0, e_s1_1, e_s1_2, e_s1_3, e_s1_4, e_s1_5, e_s1_6, e_s1_7, e_s1_8, e_s1_9, e_s1_10, e_s2_0, e_s2_1, e_s2_2, e_s2_3, e_s2_4, e_s2_5, e_s2_6, e_s2_7, e_s2_8, e_s2_9, e_s2_10, e_dln, e_dli, e_dlr, e_dll, e_b, e_bd, e_lb, e_lbd, e_lcmp, e_i2l, e_l2i, e_i2b, e_dupi, e_dupr, e_dup2, e_getf, e_at0, e_ats, e_putI, e_putL, e_putR, e_gets, e_alen, e_iald, e_iast, e_bast, e_aast, e_if1, e_if2, e_goto, e_sw, e_iret, e_zret, e_lret, e_vret, e_obji, List.set_cons_zero, List.set_cons_succ, List.set_nil, Option.toList, List.nil_append, List.cons_append, List.length_cons, List.length_nil, true_or, or_true, true_and, and_true, nd_fold, Nat.one_mul, ↓m_1, ↓m_2, ↓m_3, ↓m_4, ↓m_9, ↓m_1000, nm_ne, nm_ne', nm_inj, nm_lt, nm_le, nm_gt, nm_ge, nm_xor, nm_add, Nat.add_sub_cancel, not_true_eq_false, not_false_eq_true, na_inj, na_le, na_lt, na_add, na_mul, na_and, na_or, na_xor, na_shl, na_shr, na_sub, i_0, i_1, i_2, i_3, i_4, i_5, i_6, i_7, i_8, i_9, i_10, i_12, i_16, i_20, i_21, i_32, i_40, i_60, e_newa, e_mna, ap_obj0, ap_set0, List.append_assoc, List.length_append, Nat.zero_le, Nat.reduceAdd, Nat.reduceMul, Nat.reduceLeDiff, Nat.le_refl, Nat.zero_add, List.reduceReplicate, rg]
  refine k_call fl rfl rfl rfl ?_
  simp (disch := omega) only [e_cons, e_il, e_ll, e_al, e_lc0, e_lcs, e_ei, e_el, e_er, e_const, e_istore, e_lstore, e_astore, e_iinc, e_s1_0, e_s1_1, e_s1_2, e_s1_3, e_s1_4, e_s1_5, e_s1_6, e_s1_7, e_s1_8, e_s1_9, e_s1_10, e_s2_0, e_s2_1, e_s2_2, e_s2_3, e_s2_4, e_s2_5, e_s2_6, e_s2_7, e_s2_8, e_s2_9, e_s2_10, e_dln, e_dli, e_dlr, e_dll, e_b, e_bd, e_lb, e_lbd, e_lcmp, e_i2l, e_l2i, e_i2b, e_dupi, e_dupr, e_dup2, e_getf, e_at0, e_ats, e_putI, e_putL, e_putR, e_gets, e_alen, e_iald, e_iast, e_bast, e_aast, e_if1, e_if2, e_goto, e_sw, e_iret, e_zret, e_lret, e_vret, e_obji, List.set_cons_zero, List.set_cons_succ, List.set_nil, Option.toList, List.nil_append, List.cons_append, List.length_cons, List.length_nil, true_or, or_true, true_and, and_true, nd_fold, Nat.one_mul, ↓m_1, ↓m_2, ↓m_3, ↓m_4, ↓m_9, ↓m_1000, nm_ne, nm_ne', nm_inj, nm_lt, nm_le, nm_gt, nm_ge, nm_xor, nm_add, Nat.add_sub_cancel, not_true_eq_false, not_false_eq_true, na_inj, na_le, na_lt, na_add, na_mul, na_and, na_or, na_xor, na_shl, na_shr, na_sub, i_0, i_1, i_2, i_3, i_4, i_5, i_6, i_7, i_8, i_9, i_10, i_12, i_16, i_20, i_21, i_32, i_40, i_60]
  all_goals first | exact ⟨rfl, rfl⟩ | exact rfl | exact trivial
theorem c_S_init4 : ax_ev mi_S_init [.ref H.length, .int (nI 4), .int (nI 60)] (H ++ [(4, [.int (nI 0), .null, .null])]) none (H ++ [(4, [.int (nI 60), .ref (H.length + 1), .ref (H.length + 6)]), (23, [.ref (H.length + 2), .ref (H.length + 3), .ref (H.length + 4), .ref (H.length + 5)]), (21, zc 60), (21, zc 60), (21, zc 60), (21, zc 60), (21, iv (List.replicate 4 (nm 1)))]) := by
  have rg : (List.range 4).map (fun i => Value.ref (H.length + 1 + 1 + i)) = [.ref (H.length + 2), .ref (H.length + 3), .ref (H.length + 4), .ref (H.length + 5)] := rfl
  have fl := c_fill2 (a := H.length + 6) (v := nm 1) (xs := List.replicate 4 0) (H := H ++ [(4, [.int (nI 60), .ref (H.length + 1), .ref (H.length + 6)]), (23, [.ref (H.length + 2), .ref (H.length + 3), .ref (H.length + 4), .ref (H.length + 5)]), (21, zc 60), (21, zc 60), (21, zc 60), (21, zc 60), (21, zc 4)]) (by rw [ap_get, ← zc_iv]; rfl) (by rw [List.length_replicate]; omega)
  rw [ap_set, List.length_replicate] at fl
  generalize hz : iv (List.replicate 4 (nm 1)) = Z at *
  refine ax_beg 0 rfl rfl ?_
  simp only [ax_ent, List.replicate, List.cons_append, List.nil_append, List.append_nil]
  refine kk_S_init_0 _ _ _ _ _ ?_
  simp (disch := omega) only [bk_S_init_0, e_cons, e_il, e_ll, e_al, e_lc0, e_lcs, e_ei, e_el, e_er, e_const, e_istore, e_lstore, e_astore, e_iinc, e_s1_0, e_s1_1, e_s1_2, e_s1_3, e_s1_4, e_s1_5, e_s1_6, e_s1_7, e_s1_8, e_s1_9, e_s1_10, e_s2_0, e_s2_1, e_s2_2, e_s2_3, e_s2_4, e_s2_5, e_s2_6, e_s2_7, e_s2_8, e_s2_9, e_s2_10, e_dln, e_dli, e_dlr, e_dll, e_b, e_bd, e_lb, e_lbd, e_lcmp, e_i2l, e_l2i, e_i2b, e_dupi, e_dupr, e_dup2, e_getf, e_at0, e_ats, e_putI, e_putL, e_putR, e_gets, e_alen, e_iald, e_iast, e_bast, e_aast, e_if1, e_if2, e_goto, e_sw, e_iret, e_zret, e_lret, e_vret, e_obji, List.set_cons_zero, List.set_cons_succ, List.set_nil, Option.toList, List.nil_append, List.cons_append, List.length_cons, List.length_nil, true_or, or_true, true_and, and_true, nd_fold, Nat.one_mul, ↓m_1, ↓m_2, ↓m_3, ↓m_4, ↓m_9, ↓m_1000, nm_ne, nm_ne', nm_inj, nm_lt, nm_le, nm_gt, nm_ge, nm_xor, nm_add, Nat.add_sub_cancel, not_true_eq_false, not_false_eq_true, na_inj, na_le, na_lt, na_add, na_mul, na_and, na_or, na_xor, na_shl, na_shr, na_sub, i_0, i_1, i_2, i_3, i_4, i_5, i_6, i_7, i_8, i_9, i_10, i_12, i_16, i_20, i_21, i_32, i_40, i_60, e_newa, e_mna, ap_obj0, ap_set0, List.append_assoc, List.length_append, Nat.zero_le, Nat.reduceAdd, Nat.reduceMul, Nat.reduceLeDiff, Nat.le_refl, Nat.zero_add, List.reduceReplicate, rg]
  refine k_call fl rfl rfl rfl ?_
  simp (disch := omega) only [e_cons, e_il, e_ll, e_al, e_lc0, e_lcs, e_ei, e_el, e_er, e_const, e_istore, e_lstore, e_astore, e_iinc, e_s1_0, e_s1_1, e_s1_2, e_s1_3, e_s1_4, e_s1_5, e_s1_6, e_s1_7, e_s1_8, e_s1_9, e_s1_10, e_s2_0, e_s2_1, e_s2_2, e_s2_3, e_s2_4, e_s2_5, e_s2_6, e_s2_7, e_s2_8, e_s2_9, e_s2_10, e_dln, e_dli, e_dlr, e_dll, e_b, e_bd, e_lb, e_lbd, e_lcmp, e_i2l, e_l2i, e_i2b, e_dupi, e_dupr, e_dup2, e_getf, e_at0, e_ats, e_putI, e_putL, e_putR, e_gets, e_alen, e_iald, e_iast, e_bast, e_aast, e_if1, e_if2, e_goto, e_sw, e_iret, e_zret, e_lret, e_vret, e_obji, List.set_cons_zero, List.set_cons_succ, List.set_nil, Option.toList, List.nil_append, List.cons_append, List.length_cons, List.length_nil, true_or, or_true, true_and, and_true, nd_fold, Nat.one_mul, ↓m_1, ↓m_2, ↓m_3, ↓m_4, ↓m_9, ↓m_1000, nm_ne, nm_ne', nm_inj, nm_lt, nm_le, nm_gt, nm_ge, nm_xor, nm_add, Nat.add_sub_cancel, not_true_eq_false, not_false_eq_true, na_inj, na_le, na_lt, na_add, na_mul, na_and, na_or, na_xor, na_shl, na_shr, na_sub, i_0, i_1, i_2, i_3, i_4, i_5, i_6, i_7, i_8, i_9, i_10, i_12, i_16, i_20, i_21, i_32, i_40, i_60]
  all_goals first | exact ⟨rfl, rfl⟩ | exact rfl | exact trivial
end IN
