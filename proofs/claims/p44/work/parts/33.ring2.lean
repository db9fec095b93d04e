/-! the RING, on: the least CHAIR, near ones, BARS, STOPS -/
theorem c_G_least {H : ax_H} {a p : Nat} {ps : List Nat} {r : List Int32} {i c t b s : Nat} (ha : a < H.length) (hc : c < 256) : ax_ev mi_G_leastChair [.ref a] (rg H a p ps r i c t b s) (some (.int (oN (ms_fs c 0 0 8)))) (rg H a p ps r i c t b s) := by
  refine ax_beg 0 rfl rfl ?_
  simp only [ax_ent, List.replicate, List.cons_append, List.nil_append, List.append_nil]
  refine kk_G_leastChair_0 _ _ _ _ _ ?_
  simp (disch := omega) only [bk_G_leastChair_0, e_cons, e_il, e_ll, e_al, e_lc0, e_lcs, e_ei, e_el, e_er, e_const, e_istore, e_lstore, e_astore, e_iinc, e_s1_0, e_s1_1, e_s1_2, e_s1_3, e_s1_4, e_s1_5, e_s1_6, e_s1_7, e_s1_8, e_s1_9, e_s1_10, e_s2_0, e_s2_1, e_s2_2, e_s2_3, e_s2_4, e_s2_5, e_s2_6, e_s2_7, e_s2_8, e_s2_9, e_s2_10, e_dln, e_dli, e_dlr, e_dll, e_b, e_bd, e_lb, e_lbd, e_lcmp, e_i2l, e_l2i, e_i2b, e_dupi, e_dupr, e_dup2, e_getf, e_at0, e_ats, e_putI, e_putL, e_putR, e_gets, e_alen, e_iald, e_iast, e_bast, e_aast, e_if1, e_if2, e_goto, e_sw, e_iret, e_zret, e_lret, e_vret, e_obji, List.set_cons_zero, List.set_cons_succ, List.set_nil, Option.toList, List.nil_append, List.cons_append, List.length_cons, List.length_nil, true_or, or_true, true_and, and_true, nd_fold, Nat.one_mul, ↓m_1, ↓m_2, ↓m_3, ↓m_4, ↓m_9, ↓m_1000, nm_ne, nm_ne', nm_inj, nm_lt, nm_le, nm_gt, nm_ge, nm_xor, nm_add, Nat.add_sub_cancel, not_true_eq_false, not_false_eq_true, na_inj, na_le, na_lt, na_add, na_mul, na_and, na_or, na_xor, na_shl, na_shr, na_sub, i_0, i_1, i_2, i_3, i_4, i_5, i_6, i_7, i_8, i_9, i_10, i_12, i_16, i_20, i_21, i_32, i_40, i_60, rg_obj ha]
  refine k_call (c_G_firstOf hc (show 0 < 8 by omega) (show 7 < 8 by omega)) rfl rfl rfl ?_
  simp (disch := omega) only [e_cons, e_il, e_ll, e_al, e_lc0, e_lcs, e_ei, e_el, e_er, e_const, e_istore, e_lstore, e_astore, e_iinc, e_s1_0, e_s1_1, e_s1_2, e_s1_3, e_s1_4, e_s1_5, e_s1_6, e_s1_7, e_s1_8, e_s1_9, e_s1_10, e_s2_0, e_s2_1, e_s2_2, e_s2_3, e_s2_4, e_s2_5, e_s2_6, e_s2_7, e_s2_8, e_s2_9, e_s2_10, e_dln, e_dli, e_dlr, e_dll, e_b, e_bd, e_lb, e_lbd, e_lcmp, e_i2l, e_l2i, e_i2b, e_dupi, e_dupr, e_dup2, e_getf, e_at0, e_ats, e_putI, e_putL, e_putR, e_gets, e_alen, e_iald, e_iast, e_bast, e_aast, e_if1, e_if2, e_goto, e_sw, e_iret, e_zret, e_lret, e_vret, e_obji, List.set_cons_zero, List.set_cons_succ, List.set_nil, Option.toList, List.nil_append, List.cons_append, List.length_cons, List.length_nil, true_or, or_true, true_and, and_true, nd_fold, Nat.one_mul, ↓m_1, ↓m_2, ↓m_3, ↓m_4, ↓m_9, ↓m_1000, nm_ne, nm_ne', nm_inj, nm_lt, nm_le, nm_gt, nm_ge, nm_xor, nm_add, Nat.add_sub_cancel, not_true_eq_false, not_false_eq_true, na_inj, na_le, na_lt, na_add, na_mul, na_and, na_or, na_xor, na_shl, na_shr, na_sub, i_0, i_1, i_2, i_3, i_4, i_5, i_6, i_7, i_8, i_9, i_10, i_12, i_16, i_20, i_21, i_32, i_40, i_60]
def ms_nearc (c f : Nat) (j : Nat) : Nat := ((List.range j).filter (fun q => ms_near f q && c.testBit q)).length
theorem ms_nearc_succ (c f j : Nat) : ms_nearc c f (j + 1) = ms_nearc c f j + bz (ms_near f j && c.testBit j) := by
  unfold ms_nearc
  rw [List.range_succ, List.filter_append, List.length_append]
  congr 1
  cases h : (ms_near f j && c.testBit j) <;> simp [h, bz]
theorem ms_nearc_le (c f j : Nat) : ms_nearc c f j ≤ j := Nat.le_trans (List.length_filter_le _ _) (by simp)
/-- the MINISTERS of the cabinet, at 27 -/
def mnr (H : ax_H) (n : Nat) (ks pcs cu od : List Nat) (rk rp rc ro : List Int32) : Prop :=
  ax_get H 27 = some (1, [.ref 28, .ref 29, .ref 30, .ref 31, .int (nI n)]) ∧ ax_get H 28 = some (21, gv ks rk) ∧ ax_get H 29 = some (21, gv pcs rp) ∧ ax_get H 30 = some (21, gv cu rc) ∧ ax_get H 31 = some (21, gv od ro)
/-- what MINISTERS are like: how many, KINDS, PACES, CUNNINGS, in which order they look -/
def mwf (n : Nat) (ks pcs cu od : List Nat) : Prop :=
  n ≤ 6 ∧ ks.length = n ∧ pcs.length = n ∧ cu.length = n ∧ od.length = n ∧ (∀ i, i < n → ks.getD i 0 < 6) ∧ (∀ i, i < n → 1 ≤ pcs.getD i 0 ∧ pcs.getD i 0 < 4) ∧ (∀ i, i < n → cu.getD i 0 < 20) ∧ ∀ i, i < n → od.getD i 0 < n
/-- the ring's numbers -/
def rwf (n : Nat) (ps : List Nat) (i c : Nat) : Prop := ps.length = n ∧ (∀ j, j < n → ps.getD j 0 < 8) ∧ i < 64 ∧ c < 256
def ms_p (ks pcs ps : List Nat) (i c n j : Nat) : Nat := if i.testBit j then ms_aft (ks.getD j 0) (pcs.getD j 0) c n (ps.getD j 0) else ps.getD j 0
def ms_play (ks pcs ps : List Nat) (i c n : Nat) : List Nat := (List.range ps.length).map (ms_p ks pcs ps i c n)
def ms_plk (ks pcs ps : List Nat) (i c n k : Nat) : List Nat := (List.range ps.length).map (fun j => if j < k then ms_p ks pcs ps i c n j else ps.getD j 0)
theorem ms_plk_len {ks pcs ps : List Nat} {i c n k : Nat} : (ms_plk ks pcs ps i c n k).length = ps.length := by simp [ms_plk]
theorem ms_play_len {ks pcs ps : List Nat} {i c n : Nat} : (ms_play ks pcs ps i c n).length = ps.length := by simp [ms_play]
theorem ms_plk_0 {ks pcs ps : List Nat} {i c n : Nat} : ms_plk ks pcs ps i c n 0 = ps := lx ms_plk_len fun j hj => by
  rw [ms_plk_len] at hj
  unfold ms_plk
  rw [gr hj, if_neg (by omega)]
theorem ms_plk_n {ks pcs ps : List Nat} {i c n : Nat} : ms_plk ks pcs ps i c n ps.length = ms_play ks pcs ps i c n := lx (by rw [ms_plk_len, ms_play_len]) fun j hj => by
  rw [ms_plk_len] at hj
  unfold ms_plk ms_play
  rw [gr hj, gr hj, if_pos hj]
theorem ms_plk_in {ks pcs ps : List Nat} {i c n k : Nat} (hk : k < ps.length) : (ms_plk ks pcs ps i c n k).set k (ms_p ks pcs ps i c n k) = ms_plk ks pcs ps i c n (k + 1) := lx (by rw [List.length_set, ms_plk_len, ms_plk_len]) fun j hj => by
  rw [List.length_set, ms_plk_len] at hj
  rw [gs (by rw [ms_plk_len]; exact hk)]
  unfold ms_plk
  rw [gr hj, gr hj]
  by_cases e : j = k
  · subst e; rw [if_pos rfl, if_pos (by omega)]
  · rw [if_neg e]
    by_cases e2 : j < k
    · rw [if_pos e2, if_pos (by omega)]
    · rw [if_neg e2, if_neg (by omega)]
theorem ms_plk_at {ks pcs ps : List Nat} {i c n k : Nat} (hk : k < ps.length) : (ms_plk ks pcs ps i c n k).getD k 0 = ps.getD k 0 := by
  unfold ms_plk
  rw [gr hk, if_neg (by omega)]
theorem ms_plk_out {ks pcs ps : List Nat} {i c n k : Nat} (hk : k < ps.length) (h : i.testBit k = false) : ms_plk ks pcs ps i c n k = ms_plk ks pcs ps i c n (k + 1) := by
  rw [← ms_plk_in hk]
  refine lx (by rw [List.length_set]) fun j hj => ?_
  rw [gs (by rw [ms_plk_len]; exact hk)]
  by_cases e : j = k
  · subst e
    rw [if_pos rfl, ms_plk_at hk]
    simp [ms_p, h]
  · rw [if_neg e]
theorem ms_p_lt {ks pcs ps : List Nat} {i c n j : Nat} (h : ps.getD j 0 < 8) : ms_p ks pcs ps i c n j < 8 := by
  unfold ms_p
  split
  · exact ms_aft_lt h
  · exact h
theorem ms_play_rwf {ks pcs ps : List Nat} {i c n m : Nat} (h : rwf m ps i c) : rwf m (ms_play ks pcs ps i c n) i c := by
  obtain ⟨h1, h2, h3, h4⟩ := h
  refine ⟨by rw [ms_play_len]; exact h1, fun j hj => ?_, h3, h4⟩
  unfold ms_play
  rw [gr (by omega)]
  exact ms_p_lt (h2 j hj)
theorem c_G_play {H : ax_H} {a p n m : Nat} {ps ks pcs cu od : List Nat} {r rk rp rc ro : List Int32} {i c t b s : Nat} (ha : a < H.length) (hp : p < H.length) (hap : a ≠ p) (h31 : 31 < a) (h31' : 31 < p) (hM : mnr H n ks pcs cu od rk rp rc ro) (hW : mwf n ks pcs cu od) (hR : rwf n ps i c) (hm : m < 1000) :
    ax_ev mi_G_play [.ref a, .ref 27, .int (nI m)] (rg H a p ps r i c t b s) none (rg H a p (ms_play ks pcs ps i c m) r i c t (b + m) s) := by
  refine ax_beg 1 rfl rfl ?_
  simp only [ax_ent, List.replicate, List.cons_append, List.nil_append, List.append_nil]
  obtain ⟨m1, m2, m3, m4, m5⟩ := hM
  obtain ⟨w1, w2, w3, w4, w5, w6, w7, w8, w9⟩ := hW
  obtain ⟨r1, r2, r3, r4⟩ := hR
  have loop : ∀ (z k : Nat), k + z = n → ax_go mi_G_play (fun v' H'' => v' = none ∧ H'' = rg H a p (ms_play ks pcs ps i c m) r i c t (b + m) s) 2 (0, 0) [some (.ref a), some (.ref 27), some (.int (nI m)), some (.int (nI k))] [] (rg H a p (ms_plk ks pcs ps i c m k) r i c t b s) := by
    intro z
    induction z with
    | zero =>
      intro k hk
      have hkl : k = ps.length := by omega
      refine kk_G_play_2 _ _ _ _ _ ?_
      simp (disch := omega) only [bk_G_play_2, e_cons, e_il, e_ll, e_al, e_lc0, e_lcs, e_ei, e_el, e_er, e_const, e_istore, e_lstore, e_astore, e_iinc, e_s1_0, e_s1_1, e_s1_2, e_s1_3, e_s1_4, e_s1_5, e_s1_6, e_s1_7, e_s1_8, e_s1_9, e_s1_10, e_s2_0, e_s2_1, e_s2_2, e_s2_3, e_s2_4, e_s2_5, e_s2_6, e_s2_7, e_s2_8, e_s2_9, e_s2_10, e_dln, e_dli, e_dlr, e_dll, e_b, e_bd, e_lb, e_lbd, e_lcmp, e_i2l, e_l2i, e_i2b, e_dupi, e_dupr, e_dup2, e_getf, e_at0, e_ats, e_putI, e_putL, e_putR, e_gets, e_alen, e_iald, e_iast, e_bast, e_aast, e_if1, e_if2, e_goto, e_sw, e_iret, e_zret, e_lret, e_vret, e_obji, List.set_cons_zero, List.set_cons_succ, List.set_nil, Option.toList, List.nil_append, List.cons_append, List.length_cons, List.length_nil, true_or, or_true, true_and, and_true, nd_fold, Nat.one_mul, ↓m_1, ↓m_2, ↓m_3, ↓m_4, ↓m_9, ↓m_1000, nm_ne, nm_ne', nm_inj, nm_lt, nm_le, nm_gt, nm_ge, nm_xor, nm_add, Nat.add_sub_cancel, not_true_eq_false, not_false_eq_true, na_inj, na_le, na_lt, na_add, na_mul, na_and, na_or, na_xor, na_shl, na_shr, na_sub, i_0, i_1, i_2, i_3, i_4, i_5, i_6, i_7, i_8, i_9, i_10, i_12, i_16, i_20, i_21, i_32, i_40, i_60, rg_oth, ax_obj_of m1]
      refine ⟨fun _ => ?_, fun hc => absurd hc (by omega)⟩
      subst hkl
      rw [ms_plk_n]
      refine kk_G_play_56 _ _ _ _ _ ?_
      simp (disch := omega) only [bk_G_play_56, e_cons, e_il, e_ll, e_al, e_lc0, e_lcs, e_ei, e_el, e_er, e_const, e_istore, e_lstore, e_astore, e_iinc, e_s1_0, e_s1_1, e_s1_2, e_s1_3, e_s1_4, e_s1_5, e_s1_6, e_s1_7, e_s1_8, e_s1_9, e_s1_10, e_s2_0, e_s2_1, e_s2_2, e_s2_3, e_s2_4, e_s2_5, e_s2_6, e_s2_7, e_s2_8, e_s2_9, e_s2_10, e_dln, e_dli, e_dlr, e_dll, e_b, e_bd, e_lb, e_lbd, e_lcmp, e_i2l, e_l2i, e_i2b, e_dupi, e_dupr, e_dup2, e_getf, e_at0, e_ats, e_putI, e_putL, e_putR, e_gets, e_alen, e_iald, e_iast, e_bast, e_aast, e_if1, e_if2, e_goto, e_sw, e_iret, e_zret, e_lret, e_vret, e_obji, List.set_cons_zero, List.set_cons_succ, List.set_nil, Option.toList, List.nil_append, List.cons_append, List.length_cons, List.length_nil, true_or, or_true, true_and, and_true, nd_fold, Nat.one_mul, ↓m_1, ↓m_2, ↓m_3, ↓m_4, ↓m_9, ↓m_1000, nm_ne, nm_ne', nm_inj, nm_lt, nm_le, nm_gt, nm_ge, nm_xor, nm_add, Nat.add_sub_cancel, not_true_eq_false, not_false_eq_true, na_inj, na_le, na_lt, na_add, na_mul, na_and, na_or, na_xor, na_shl, na_shr, na_sub, i_0, i_1, i_2, i_3, i_4, i_5, i_6, i_7, i_8, i_9, i_10, i_12, i_16, i_20, i_21, i_32, i_40, i_60, rg_obj ha, rg_seto]
    | succ z ih =>
      intro k hk
      have hkl : k < ps.length := by omega
      have hb := bz_01 (i.testBit k)
      refine kk_G_play_2 _ _ _ _ _ ?_
      simp (disch := omega) only [bk_G_play_2, e_cons, e_il, e_ll, e_al, e_lc0, e_lcs, e_ei, e_el, e_er, e_const, e_istore, e_lstore, e_astore, e_iinc, e_s1_0, e_s1_1, e_s1_2, e_s1_3, e_s1_4, e_s1_5, e_s1_6, e_s1_7, e_s1_8, e_s1_9, e_s1_10, e_s2_0, e_s2_1, e_s2_2, e_s2_3, e_s2_4, e_s2_5, e_s2_6, e_s2_7, e_s2_8, e_s2_9, e_s2_10, e_dln, e_dli, e_dlr, e_dll, e_b, e_bd, e_lb, e_lbd, e_lcmp, e_i2l, e_l2i, e_i2b, e_dupi, e_dupr, e_dup2, e_getf, e_at0, e_ats, e_putI, e_putL, e_putR, e_gets, e_alen, e_iald, e_iast, e_bast, e_aast, e_if1, e_if2, e_goto, e_sw, e_iret, e_zret, e_lret, e_vret, e_obji, List.set_cons_zero, List.set_cons_succ, List.set_nil, Option.toList, List.nil_append, List.cons_append, List.length_cons, List.length_nil, true_or, or_true, true_and, and_true, nd_fold, Nat.one_mul, ↓m_1, ↓m_2, ↓m_3, ↓m_4, ↓m_9, ↓m_1000, nm_ne, nm_ne', nm_inj, nm_lt, nm_le, nm_gt, nm_ge, nm_xor, nm_add, Nat.add_sub_cancel, not_true_eq_false, not_false_eq_true, na_inj, na_le, na_lt, na_add, na_mul, na_and, na_or, na_xor, na_shl, na_shr, na_sub, i_0, i_1, i_2, i_3, i_4, i_5, i_6, i_7, i_8, i_9, i_10, i_12, i_16, i_20, i_21, i_32, i_40, i_60, rg_oth, ax_obj_of m1]
      refine ⟨fun hc => absurd hc (by omega), fun _ => ?_⟩
      refine k_callV (rg_geta ha) (c_G_isIn ha (show i < 2 ^ 31 by omega) (show k < 32 by omega)) rfl rfl rfl ?_
      simp (disch := omega) only [e_cons, e_il, e_ll, e_al, e_lc0, e_lcs, e_ei, e_el, e_er, e_const, e_istore, e_lstore, e_astore, e_iinc, e_s1_0, e_s1_1, e_s1_2, e_s1_3, e_s1_4, e_s1_5, e_s1_6, e_s1_7, e_s1_8, e_s1_9, e_s1_10, e_s2_0, e_s2_1, e_s2_2, e_s2_3, e_s2_4, e_s2_5, e_s2_6, e_s2_7, e_s2_8, e_s2_9, e_s2_10, e_dln, e_dli, e_dlr, e_dll, e_b, e_bd, e_lb, e_lbd, e_lcmp, e_i2l, e_l2i, e_i2b, e_dupi, e_dupr, e_dup2, e_getf, e_at0, e_ats, e_putI, e_putL, e_putR, e_gets, e_alen, e_iald, e_iast, e_bast, e_aast, e_if1, e_if2, e_goto, e_sw, e_iret, e_zret, e_lret, e_vret, e_obji, List.set_cons_zero, List.set_cons_succ, List.set_nil, Option.toList, List.nil_append, List.cons_append, List.length_cons, List.length_nil, true_or, or_true, true_and, and_true, nd_fold, Nat.one_mul, ↓m_1, ↓m_2, ↓m_3, ↓m_4, ↓m_9, ↓m_1000, nm_ne, nm_ne', nm_inj, nm_lt, nm_le, nm_gt, nm_ge, nm_xor, nm_add, Nat.add_sub_cancel, not_true_eq_false, not_false_eq_true, na_inj, na_le, na_lt, na_add, na_mul, na_and, na_or, na_xor, na_shl, na_shr, na_sub, i_0, i_1, i_2, i_3, i_4, i_5, i_6, i_7, i_8, i_9, i_10, i_12, i_16, i_20, i_21, i_32, i_40, i_60]
      refine ⟨fun h => ?_, fun h => ?_⟩
      · have ht : i.testBit k = false := by cases h1 : i.testBit k <;> simp_all [bz]
        rw [ms_plk_out hkl ht]
        refine kk_G_play_50 _ _ _ _ _ ?_
        simp (disch := omega) only [bk_G_play_50, e_cons, e_il, e_ll, e_al, e_lc0, e_lcs, e_ei, e_el, e_er, e_const, e_istore, e_lstore, e_astore, e_iinc, e_s1_0, e_s1_1, e_s1_2, e_s1_3, e_s1_4, e_s1_5, e_s1_6, e_s1_7, e_s1_8, e_s1_9, e_s1_10, e_s2_0, e_s2_1, e_s2_2, e_s2_3, e_s2_4, e_s2_5, e_s2_6, e_s2_7, e_s2_8, e_s2_9, e_s2_10, e_dln, e_dli, e_dlr, e_dll, e_b, e_bd, e_lb, e_lbd, e_lcmp, e_i2l, e_l2i, e_i2b, e_dupi, e_dupr, e_dup2, e_getf, e_at0, e_ats, e_putI, e_putL, e_putR, e_gets, e_alen, e_iald, e_iast, e_bast, e_aast, e_if1, e_if2, e_goto, e_sw, e_iret, e_zret, e_lret, e_vret, e_obji, List.set_cons_zero, List.set_cons_succ, List.set_nil, Option.toList, List.nil_append, List.cons_append, List.length_cons, List.length_nil, true_or, or_true, true_and, and_true, nd_fold, Nat.one_mul, ↓m_1, ↓m_2, ↓m_3, ↓m_4, ↓m_9, ↓m_1000, nm_ne, nm_ne', nm_inj, nm_lt, nm_le, nm_gt, nm_ge, nm_xor, nm_add, Nat.add_sub_cancel, not_true_eq_false, not_false_eq_true, na_inj, na_le, na_lt, na_add, na_mul, na_and, na_or, na_xor, na_shl, na_shr, na_sub, i_0, i_1, i_2, i_3, i_4, i_5, i_6, i_7, i_8, i_9, i_10, i_12, i_16, i_20, i_21, i_32, i_40, i_60]
        exact ih (k + 1) (by omega)
      · have ht : i.testBit k = true := by cases h1 : i.testBit k <;> simp_all [bz]
        have hpl : (ms_plk ks pcs ps i c m k).length = ps.length := ms_plk_len
        simp (disch := omega) only [e_cons, e_il, e_ll, e_al, e_lc0, e_lcs, e_ei, e_el, e_er, e_const, e_istore, e_lstore, e_astore, e_iinc, e_s1_0, e_s1_1, e_s1_2, e_s1_3, e_s1_4, e_s1_5, e_s1_6, e_s1_7, e_s1_8, e_s1_9, e_s1_10, e_s2_0, e_s2_1, e_s2_2, e_s2_3, e_s2_4, e_s2_5, e_s2_6, e_s2_7, e_s2_8, e_s2_9, e_s2_10, e_dln, e_dli, e_dlr, e_dll, e_b, e_bd, e_lb, e_lbd, e_lcmp, e_i2l, e_l2i, e_i2b, e_dupi, e_dupr, e_dup2, e_getf, e_at0, e_ats, e_putI, e_putL, e_putR, e_gets, e_alen, e_iald, e_iast, e_bast, e_aast, e_if1, e_if2, e_goto, e_sw, e_iret, e_zret, e_lret, e_vret, e_obji, List.set_cons_zero, List.set_cons_succ, List.set_nil, Option.toList, List.nil_append, List.cons_append, List.length_cons, List.length_nil, true_or, or_true, true_and, and_true, nd_fold, Nat.one_mul, ↓m_1, ↓m_2, ↓m_3, ↓m_4, ↓m_9, ↓m_1000, nm_ne, nm_ne', nm_inj, nm_lt, nm_le, nm_gt, nm_ge, nm_xor, nm_add, Nat.add_sub_cancel, not_true_eq_false, not_false_eq_true, na_inj, na_le, na_lt, na_add, na_mul, na_and, na_or, na_xor, na_shl, na_shr, na_sub, i_0, i_1, i_2, i_3, i_4, i_5, i_6, i_7, i_8, i_9, i_10, i_12, i_16, i_20, i_21, i_32, i_40, i_60, rg_obj ha, rg_row hap hp, rg_oth, ax_obj_of m1, ax_obj_of m2, ax_obj_of m3, gv_rd, ms_plk_at hkl]
        refine k_call (c_N_placeAfter (w6 k (by omega)) (w7 k (by omega)).1 (w7 k (by omega)).2 (r2 k (by omega)) r4 hm) rfl rfl rfl ?_
        simp (disch := omega) only [e_cons, e_il, e_ll, e_al, e_lc0, e_lcs, e_ei, e_el, e_er, e_const, e_istore, e_lstore, e_astore, e_iinc, e_s1_0, e_s1_1, e_s1_2, e_s1_3, e_s1_4, e_s1_5, e_s1_6, e_s1_7, e_s1_8, e_s1_9, e_s1_10, e_s2_0, e_s2_1, e_s2_2, e_s2_3, e_s2_4, e_s2_5, e_s2_6, e_s2_7, e_s2_8, e_s2_9, e_s2_10, e_dln, e_dli, e_dlr, e_dll, e_b, e_bd, e_lb, e_lbd, e_lcmp, e_i2l, e_l2i, e_i2b, e_dupi, e_dupr, e_dup2, e_getf, e_at0, e_ats, e_putI, e_putL, e_putR, e_gets, e_alen, e_iald, e_iast, e_bast, e_aast, e_if1, e_if2, e_goto, e_sw, e_iret, e_zret, e_lret, e_vret, e_obji, List.set_cons_zero, List.set_cons_succ, List.set_nil, Option.toList, List.nil_append, List.cons_append, List.length_cons, List.length_nil, true_or, or_true, true_and, and_true, nd_fold, Nat.one_mul, ↓m_1, ↓m_2, ↓m_3, ↓m_4, ↓m_9, ↓m_1000, nm_ne, nm_ne', nm_inj, nm_lt, nm_le, nm_gt, nm_ge, nm_xor, nm_add, Nat.add_sub_cancel, not_true_eq_false, not_false_eq_true, na_inj, na_le, na_lt, na_add, na_mul, na_and, na_or, na_xor, na_shl, na_shr, na_sub, i_0, i_1, i_2, i_3, i_4, i_5, i_6, i_7, i_8, i_9, i_10, i_12, i_16, i_20, i_21, i_32, i_40, i_60, rg_row hap hp, gv_wr, gv_set, rg_setr hap]
        rw [show ms_aft (ks.getD k 0) (pcs.getD k 0) c m (ps.getD k 0) = ms_p ks pcs ps i c m k by simp [ms_p, ht], ms_plk_in hkl]
        refine kk_G_play_50 _ _ _ _ _ ?_
        simp (disch := omega) only [bk_G_play_50, e_cons, e_il, e_ll, e_al, e_lc0, e_lcs, e_ei, e_el, e_er, e_const, e_istore, e_lstore, e_astore, e_iinc, e_s1_0, e_s1_1, e_s1_2, e_s1_3, e_s1_4, e_s1_5, e_s1_6, e_s1_7, e_s1_8, e_s1_9, e_s1_10, e_s2_0, e_s2_1, e_s2_2, e_s2_3, e_s2_4, e_s2_5, e_s2_6, e_s2_7, e_s2_8, e_s2_9, e_s2_10, e_dln, e_dli, e_dlr, e_dll, e_b, e_bd, e_lb, e_lbd, e_lcmp, e_i2l, e_l2i, e_i2b, e_dupi, e_dupr, e_dup2, e_getf, e_at0, e_ats, e_putI, e_putL, e_putR, e_gets, e_alen, e_iald, e_iast, e_bast, e_aast, e_if1, e_if2, e_goto, e_sw, e_iret, e_zret, e_lret, e_vret, e_obji, List.set_cons_zero, List.set_cons_succ, List.set_nil, Option.toList, List.nil_append, List.cons_append, List.length_cons, List.length_nil, true_or, or_true, true_and, and_true, nd_fold, Nat.one_mul, ↓m_1, ↓m_2, ↓m_3, ↓m_4, ↓m_9, ↓m_1000, nm_ne, nm_ne', nm_inj, nm_lt, nm_le, nm_gt, nm_ge, nm_xor, nm_add, Nat.add_sub_cancel, not_true_eq_false, not_false_eq_true, na_inj, na_le, na_lt, na_add, na_mul, na_and, na_or, na_xor, na_shl, na_shr, na_sub, i_0, i_1, i_2, i_3, i_4, i_5, i_6, i_7, i_8, i_9, i_10, i_12, i_16, i_20, i_21, i_32, i_40, i_60]
        exact ih (k + 1) (by omega)
  refine kk_G_play_0 _ _ _ _ _ ?_
  simp (disch := omega) only [bk_G_play_0, e_cons, e_il, e_ll, e_al, e_lc0, e_lcs, e_ei, e_el, e_er, e_const, e_istore, e_lstore, e_astore, e_iinc, e_s1_0, e_s1_1, e_s1_2, e_s1_3, e_s1_4, e_s1_5, e_s1_6, e_s1_7, e_s1_8, e_s1_9, e_s1_10, e_s2_0, e_s2_1, e_s2_2, e_s2_3, e_s2_4, e_s2_5, e_s2_6, e_s2_7, e_s2_8, e_s2_9, e_s2_10, e_dln, e_dli, e_dlr, e_dll, e_b, e_bd, e_lb, e_lbd, e_lcmp, e_i2l, e_l2i, e_i2b, e_dupi, e_dupr, e_dup2, e_getf, e_at0, e_ats, e_putI, e_putL, e_putR, e_gets, e_alen, e_iald, e_iast, e_bast, e_aast, e_if1, e_if2, e_goto, e_sw, e_iret, e_zret, e_lret, e_vret, e_obji, List.set_cons_zero, List.set_cons_succ, List.set_nil, Option.toList, List.nil_append, List.cons_append, List.length_cons, List.length_nil, true_or, or_true, true_and, and_true, nd_fold, Nat.one_mul, ↓m_1, ↓m_2, ↓m_3, ↓m_4, ↓m_9, ↓m_1000, nm_ne, nm_ne', nm_inj, nm_lt, nm_le, nm_gt, nm_ge, nm_xor, nm_add, Nat.add_sub_cancel, not_true_eq_false, not_false_eq_true, na_inj, na_le, na_lt, na_add, na_mul, na_and, na_or, na_xor, na_shl, na_shr, na_sub, i_0, i_1, i_2, i_3, i_4, i_5, i_6, i_7, i_8, i_9, i_10, i_12, i_16, i_20, i_21, i_32, i_40, i_60]
  have := loop n 0 (by omega)
  rwa [ms_plk_0] at this
