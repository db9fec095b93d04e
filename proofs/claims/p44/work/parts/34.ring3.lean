/-! the RING: a seat, a STOP, a DEED, another ring's numbers -/
def ms_p1 (k pc c i : Nat) (ps : List Nat) : List Nat := if ms_is k 3 then ps.set i (ms_stp k pc c (ps.getD i 0)) else ps
def ms_find (k c tk p : Nat) : Option Nat := match ms_fs (nd c tk) p 0 (ms_reach k + 1) with
  | some q => some q
  | none => if k = 4 then ms_fs (c &&& tk) p 0 (ms_reach k + 1) else none
def ms_seat (k pc c i : Nat) (s : List Nat × Nat × Nat) : List Nat × Nat × Nat := match ms_find k c s.2.2 ((ms_p1 k pc c i s.1).getD i 0) with
  | some q => ((ms_p1 k pc c i s.1).set i q, s.2.1, s.2.2 ||| 2 ^ q)
  | none => (ms_p1 k pc c i s.1, nd s.2.1 (2 ^ i), s.2.2)
theorem ms_reach_lt (k : Nat) : ms_reach k < 8 := by
  unfold ms_reach
  split
  · omega
  · split <;> omega
theorem ms_p1_len {k pc c i : Nat} {ps : List Nat} : (ms_p1 k pc c i ps).length = ps.length := by unfold ms_p1; split <;> simp
theorem ms_p1_lt {k pc c i n : Nat} {ps : List Nat} (h : ∀ j, j < n → ps.getD j 0 < 8) (hl : ps.length = n) : ∀ j, j < n → (ms_p1 k pc c i ps).getD j 0 < 8 := by
  intro j hj
  unfold ms_p1
  split
  · by_cases hi : i < ps.length
    · rw [gs hi]
      split
      · exact ms_stp_lt _ _ _ _
      · exact h j hj
    · rw [List.set_eq_of_length_le (by omega)]
      exact h j hj
  · exact h j hj
theorem ms_find_lt {k c tk p q : Nat} (h : ms_find k c tk p = some q) : q < 8 ∧ c.testBit q := by
  unfold ms_find at h
  split at h
  · next q' h1 =>
    cases h
    obtain ⟨a, b⟩ := ms_fs_lt h1
    refine ⟨a, ?_⟩
    rw [nd_bit (by omega)] at b
    simp at b
    exact b.1
  · split at h
    · obtain ⟨a, b⟩ := ms_fs_lt h
      rw [Nat.testBit_and] at b
      simp at b
      exact ⟨a, b.1⟩
    · cases h
theorem ms_seat_wf {k pc c i n : Nat} {ps : List Nat} {ins tk : Nat} (hR : rwf n ps ins c) (ht : tk < 256) : rwf n (ms_seat k pc c i (ps, ins, tk)).1 (ms_seat k pc c i (ps, ins, tk)).2.1 c ∧ (ms_seat k pc c i (ps, ins, tk)).2.2 < 256 := by
  obtain ⟨r1, r2, r3, r4⟩ := hR
  have hl := ms_p1_lt (k := k) (pc := pc) (c := c) (i := i) r2 r1
  unfold ms_seat
  split
  · next q hq =>
    obtain ⟨a, -⟩ := ms_find_lt hq
    refine ⟨⟨by simp [ms_p1_len, r1], fun j hj => ?_, r3, r4⟩, or_lt (n := 8) ht (pow_lt a)⟩
    by_cases hi : i < (ms_p1 k pc c i ps).length
    · show ((ms_p1 k pc c i ps).set i q).getD j 0 < 8
      rw [gs hi]
      split
      · exact a
      · exact hl j hj
    · show ((ms_p1 k pc c i ps).set i q).getD j 0 < 8
      rw [List.set_eq_of_length_le (by omega)]
      exact hl j hj
  · exact ⟨⟨by simp [ms_p1_len, r1], hl, Nat.lt_of_le_of_lt (nd_le _ _) r3, r4⟩, ht⟩
theorem c_G_seat {H : ax_H} {a p n k : Nat} {ps ks pcs cu od : List Nat} {r rk rp rc ro : List Int32} {i c t b s : Nat} (ha : a < H.length) (hp : p < H.length) (hap : a ≠ p) (h31 : 31 < a) (h31' : 31 < p) (hM : mnr H n ks pcs cu od rk rp rc ro) (hW : mwf n ks pcs cu od) (hR : rwf n ps i c) (ht : t < 256) (hk : k < n) :
    ax_ev mi_G_seat [.ref a, .ref 27, .int (nI k)] (rg H a p ps r i c t b s) none (rg H a p (ms_seat (ks.getD k 0) (pcs.getD k 0) c k (ps, i, t)).1 r (ms_seat (ks.getD k 0) (pcs.getD k 0) c k (ps, i, t)).2.1 c (ms_seat (ks.getD k 0) (pcs.getD k 0) c k (ps, i, t)).2.2 b s) := by
  refine ax_beg 2 rfl rfl ?_
  simp only [ax_ent, List.replicate, List.cons_append, List.nil_append, List.append_nil]
  obtain ⟨m1, m2, m3, m4, m5⟩ := hM
  obtain ⟨w1, w2, w3, w4, w5, w6, w7, w8, w9⟩ := hW
  obtain ⟨r1, r2, r3, r4⟩ := hR
  have hk6 := w6 k hk
  have hpl : (ms_p1 (ks.getD k 0) (pcs.getD k 0) c k ps).length = ps.length := ms_p1_len
  have hp8 := ms_p1_lt (k := ks.getD k 0) (pc := pcs.getD k 0) (c := c) (i := k) r2 r1 k hk
  have hnd := nd_le c t
  have hand : c &&& t ≤ c := Nat.and_le_left
  have hrl := ms_reach_lt (ks.getD k 0)
  have step : ∀ (l4 : Option Value) (ps1 : List Nat), ps1 = ms_p1 (ks.getD k 0) (pcs.getD k 0) c k ps → ax_go mi_G_seat (fun v' H'' => v' = none ∧ H'' = rg H a p (ms_seat (ks.getD k 0) (pcs.getD k 0) c k (ps, i, t)).1 r (ms_seat (ks.getD k 0) (pcs.getD k 0) c k (ps, i, t)).2.1 c (ms_seat (ks.getD k 0) (pcs.getD k 0) c k (ps, i, t)).2.2 b s) 55 (0, 0)
      [some (.ref a), some (.ref 27), some (.int (nI k)), some (.int (nI (ks.getD k 0))), l4] [] (rg H a p ps1 r i c t b s) := by
    intro l4 ps1 hps
    subst hps
    have fin : ∀ (o : Option Nat), o = ms_find (ks.getD k 0) c t ((ms_p1 (ks.getD k 0) (pcs.getD k 0) c k ps).getD k 0) → ax_go mi_G_seat (fun v' H'' => v' = none ∧ H'' = rg H a p (ms_seat (ks.getD k 0) (pcs.getD k 0) c k (ps, i, t)).1 r (ms_seat (ks.getD k 0) (pcs.getD k 0) c k (ps, i, t)).2.1 c (ms_seat (ks.getD k 0) (pcs.getD k 0) c k (ps, i, t)).2.2 b s) 117 (0, 0)
        [some (.ref a), some (.ref 27), some (.int (nI k)), some (.int (nI (ks.getD k 0))), some (.int (oN o))] [] (rg H a p (ms_p1 (ks.getD k 0) (pcs.getD k 0) c k ps) r i c t b s) := by
      intro o ho
      cases o with
      | none =>
        have hs : ms_seat (ks.getD k 0) (pcs.getD k 0) c k (ps, i, t) = (ms_p1 (ks.getD k 0) (pcs.getD k 0) c k ps, nd i (2 ^ k), t) := by unfold ms_seat; rw [← ho]
        rw [hs]
        simp only [oN]
        refine kk_G_seat_117 _ _ _ _ _ ?_
        simp (disch := omega) only [bk_G_seat_117, e_cons, e_il, e_ll, e_al, e_lc0, e_lcs, e_ei, e_el, e_er, e_const, e_istore, e_lstore, e_astore, e_iinc, e_s1_0, e_s1_1, e_s1_2, e_s1_3, e_s1_4, e_s1_5, e_s1_6, e_s1_7, e_s1_8, e_s1_9, e_s1_10, e_s2_0, e_s2_1, e_s2_2, e_s2_3, e_s2_4, e_s2_5, e_s2_6, e_s2_7, e_s2_8, e_s2_9, e_s2_10, e_dln, e_dli, e_dlr, e_dll, e_b, e_bd, e_lb, e_lbd, e_lcmp, e_i2l, e_l2i, e_i2b, e_dupi, e_dupr, e_dup2, e_getf, e_at0, e_ats, e_putI, e_putL, e_putR, e_gets, e_alen, e_iald, e_iast, e_bast, e_aast, e_if1, e_if2, e_goto, e_sw, e_iret, e_zret, e_lret, e_vret, e_obji, List.set_cons_zero, List.set_cons_succ, List.set_nil, Option.toList, List.nil_append, List.cons_append, List.length_cons, List.length_nil, true_or, or_true, true_and, and_true, nd_fold, Nat.one_mul, ↓m_1, ↓m_2, ↓m_3, ↓m_4, ↓m_9, ↓m_1000, nm_ne, nm_ne', nm_inj, nm_lt, nm_le, nm_gt, nm_ge, nm_xor, nm_add, Nat.add_sub_cancel, not_true_eq_false, not_false_eq_true, na_inj, na_le, na_lt, na_add, na_mul, na_and, na_or, na_xor, na_shl, na_shr, na_sub, i_0, i_1, i_2, i_3, i_4, i_5, i_6, i_7, i_8, i_9, i_10, i_12, i_16, i_20, i_21, i_32, i_40, i_60, rg_oth, ax_obj_of m1, ax_obj_of m2, ax_obj_of m3, rg_obj ha, rg_row hap hp, gv_rd, gv_wr, gv_set, rg_setr hap, rg_seto]
        refine ⟨fun h => absurd h (by simp), fun _ => ?_⟩
        refine kk_G_seat_162 _ _ _ _ _ ?_
        simp (disch := omega) only [bk_G_seat_162, e_cons, e_il, e_ll, e_al, e_lc0, e_lcs, e_ei, e_el, e_er, e_const, e_istore, e_lstore, e_astore, e_iinc, e_s1_0, e_s1_1, e_s1_2, e_s1_3, e_s1_4, e_s1_5, e_s1_6, e_s1_7, e_s1_8, e_s1_9, e_s1_10, e_s2_0, e_s2_1, e_s2_2, e_s2_3, e_s2_4, e_s2_5, e_s2_6, e_s2_7, e_s2_8, e_s2_9, e_s2_10, e_dln, e_dli, e_dlr, e_dll, e_b, e_bd, e_lb, e_lbd, e_lcmp, e_i2l, e_l2i, e_i2b, e_dupi, e_dupr, e_dup2, e_getf, e_at0, e_ats, e_putI, e_putL, e_putR, e_gets, e_alen, e_iald, e_iast, e_bast, e_aast, e_if1, e_if2, e_goto, e_sw, e_iret, e_zret, e_lret, e_vret, e_obji, List.set_cons_zero, List.set_cons_succ, List.set_nil, Option.toList, List.nil_append, List.cons_append, List.length_cons, List.length_nil, true_or, or_true, true_and, and_true, nd_fold, Nat.one_mul, ↓m_1, ↓m_2, ↓m_3, ↓m_4, ↓m_9, ↓m_1000, nm_ne, nm_ne', nm_inj, nm_lt, nm_le, nm_gt, nm_ge, nm_xor, nm_add, Nat.add_sub_cancel, not_true_eq_false, not_false_eq_true, na_inj, na_le, na_lt, na_add, na_mul, na_and, na_or, na_xor, na_shl, na_shr, na_sub, i_0, i_1, i_2, i_3, i_4, i_5, i_6, i_7, i_8, i_9, i_10, i_12, i_16, i_20, i_21, i_32, i_40, i_60, rg_oth, ax_obj_of m1, ax_obj_of m2, ax_obj_of m3, rg_obj ha, rg_row hap hp, gv_rd, gv_wr, gv_set, rg_setr hap, rg_seto]
      | some q =>
        have hq := (ms_find_lt ho.symm).1
        have hs : ms_seat (ks.getD k 0) (pcs.getD k 0) c k (ps, i, t) = ((ms_p1 (ks.getD k 0) (pcs.getD k 0) c k ps).set k q, i, t ||| 2 ^ q) := by unfold ms_seat; rw [← ho]
        rw [hs]
        simp only [oN]
        refine kk_G_seat_117 _ _ _ _ _ ?_
        simp (disch := omega) only [bk_G_seat_117, e_cons, e_il, e_ll, e_al, e_lc0, e_lcs, e_ei, e_el, e_er, e_const, e_istore, e_lstore, e_astore, e_iinc, e_s1_0, e_s1_1, e_s1_2, e_s1_3, e_s1_4, e_s1_5, e_s1_6, e_s1_7, e_s1_8, e_s1_9, e_s1_10, e_s2_0, e_s2_1, e_s2_2, e_s2_3, e_s2_4, e_s2_5, e_s2_6, e_s2_7, e_s2_8, e_s2_9, e_s2_10, e_dln, e_dli, e_dlr, e_dll, e_b, e_bd, e_lb, e_lbd, e_lcmp, e_i2l, e_l2i, e_i2b, e_dupi, e_dupr, e_dup2, e_getf, e_at0, e_ats, e_putI, e_putL, e_putR, e_gets, e_alen, e_iald, e_iast, e_bast, e_aast, e_if1, e_if2, e_goto, e_sw, e_iret, e_zret, e_lret, e_vret, e_obji, List.set_cons_zero, List.set_cons_succ, List.set_nil, Option.toList, List.nil_append, List.cons_append, List.length_cons, List.length_nil, true_or, or_true, true_and, and_true, nd_fold, Nat.one_mul, ↓m_1, ↓m_2, ↓m_3, ↓m_4, ↓m_9, ↓m_1000, nm_ne, nm_ne', nm_inj, nm_lt, nm_le, nm_gt, nm_ge, nm_xor, nm_add, Nat.add_sub_cancel, not_true_eq_false, not_false_eq_true, na_inj, na_le, na_lt, na_add, na_mul, na_and, na_or, na_xor, na_shl, na_shr, na_sub, i_0, i_1, i_2, i_3, i_4, i_5, i_6, i_7, i_8, i_9, i_10, i_12, i_16, i_20, i_21, i_32, i_40, i_60, rg_oth, ax_obj_of m1, ax_obj_of m2, ax_obj_of m3, rg_obj ha, rg_row hap hp, gv_rd, gv_wr, gv_set, rg_setr hap, rg_seto]
        refine ⟨fun _ => ?_, fun h => absurd h (by simp)⟩
        refine kk_G_seat_141 _ _ _ _ _ ?_
        simp (disch := omega) only [bk_G_seat_141, e_cons, e_il, e_ll, e_al, e_lc0, e_lcs, e_ei, e_el, e_er, e_const, e_istore, e_lstore, e_astore, e_iinc, e_s1_0, e_s1_1, e_s1_2, e_s1_3, e_s1_4, e_s1_5, e_s1_6, e_s1_7, e_s1_8, e_s1_9, e_s1_10, e_s2_0, e_s2_1, e_s2_2, e_s2_3, e_s2_4, e_s2_5, e_s2_6, e_s2_7, e_s2_8, e_s2_9, e_s2_10, e_dln, e_dli, e_dlr, e_dll, e_b, e_bd, e_lb, e_lbd, e_lcmp, e_i2l, e_l2i, e_i2b, e_dupi, e_dupr, e_dup2, e_getf, e_at0, e_ats, e_putI, e_putL, e_putR, e_gets, e_alen, e_iald, e_iast, e_bast, e_aast, e_if1, e_if2, e_goto, e_sw, e_iret, e_zret, e_lret, e_vret, e_obji, List.set_cons_zero, List.set_cons_succ, List.set_nil, Option.toList, List.nil_append, List.cons_append, List.length_cons, List.length_nil, true_or, or_true, true_and, and_true, nd_fold, Nat.one_mul, ↓m_1, ↓m_2, ↓m_3, ↓m_4, ↓m_9, ↓m_1000, nm_ne, nm_ne', nm_inj, nm_lt, nm_le, nm_gt, nm_ge, nm_xor, nm_add, Nat.add_sub_cancel, not_true_eq_false, not_false_eq_true, na_inj, na_le, na_lt, na_add, na_mul, na_and, na_or, na_xor, na_shl, na_shr, na_sub, i_0, i_1, i_2, i_3, i_4, i_5, i_6, i_7, i_8, i_9, i_10, i_12, i_16, i_20, i_21, i_32, i_40, i_60, rg_oth, ax_obj_of m1, ax_obj_of m2, ax_obj_of m3, rg_obj ha, rg_row hap hp, gv_rd, gv_wr, gv_set, rg_setr hap, rg_seto]
        refine kk_G_seat_162 _ _ _ _ _ ?_
        simp (disch := omega) only [bk_G_seat_162, e_cons, e_il, e_ll, e_al, e_lc0, e_lcs, e_ei, e_el, e_er, e_const, e_istore, e_lstore, e_astore, e_iinc, e_s1_0, e_s1_1, e_s1_2, e_s1_3, e_s1_4, e_s1_5, e_s1_6, e_s1_7, e_s1_8, e_s1_9, e_s1_10, e_s2_0, e_s2_1, e_s2_2, e_s2_3, e_s2_4, e_s2_5, e_s2_6, e_s2_7, e_s2_8, e_s2_9, e_s2_10, e_dln, e_dli, e_dlr, e_dll, e_b, e_bd, e_lb, e_lbd, e_lcmp, e_i2l, e_l2i, e_i2b, e_dupi, e_dupr, e_dup2, e_getf, e_at0, e_ats, e_putI, e_putL, e_putR, e_gets, e_alen, e_iald, e_iast, e_bast, e_aast, e_if1, e_if2, e_goto, e_sw, e_iret, e_zret, e_lret, e_vret, e_obji, List.set_cons_zero, List.set_cons_succ, List.set_nil, Option.toList, List.nil_append, List.cons_append, List.length_cons, List.length_nil, true_or, or_true, true_and, and_true, nd_fold, Nat.one_mul, ↓m_1, ↓m_2, ↓m_3, ↓m_4, ↓m_9, ↓m_1000, nm_ne, nm_ne', nm_inj, nm_lt, nm_le, nm_gt, nm_ge, nm_xor, nm_add, Nat.add_sub_cancel, not_true_eq_false, not_false_eq_true, na_inj, na_le, na_lt, na_add, na_mul, na_and, na_or, na_xor, na_shl, na_shr, na_sub, i_0, i_1, i_2, i_3, i_4, i_5, i_6, i_7, i_8, i_9, i_10, i_12, i_16, i_20, i_21, i_32, i_40, i_60, rg_oth, ax_obj_of m1, ax_obj_of m2, ax_obj_of m3, rg_obj ha, rg_row hap hp, gv_rd, gv_wr, gv_set, rg_setr hap, rg_seto]
    refine kk_G_seat_55 _ _ _ _ _ ?_
    simp (disch := omega) only [bk_G_seat_55, e_cons, e_il, e_ll, e_al, e_lc0, e_lcs, e_ei, e_el, e_er, e_const, e_istore, e_lstore, e_astore, e_iinc, e_s1_0, e_s1_1, e_s1_2, e_s1_3, e_s1_4, e_s1_5, e_s1_6, e_s1_7, e_s1_8, e_s1_9, e_s1_10, e_s2_0, e_s2_1, e_s2_2, e_s2_3, e_s2_4, e_s2_5, e_s2_6, e_s2_7, e_s2_8, e_s2_9, e_s2_10, e_dln, e_dli, e_dlr, e_dll, e_b, e_bd, e_lb, e_lbd, e_lcmp, e_i2l, e_l2i, e_i2b, e_dupi, e_dupr, e_dup2, e_getf, e_at0, e_ats, e_putI, e_putL, e_putR, e_gets, e_alen, e_iald, e_iast, e_bast, e_aast, e_if1, e_if2, e_goto, e_sw, e_iret, e_zret, e_lret, e_vret, e_obji, List.set_cons_zero, List.set_cons_succ, List.set_nil, Option.toList, List.nil_append, List.cons_append, List.length_cons, List.length_nil, true_or, or_true, true_and, and_true, nd_fold, Nat.one_mul, ↓m_1, ↓m_2, ↓m_3, ↓m_4, ↓m_9, ↓m_1000, nm_ne, nm_ne', nm_inj, nm_lt, nm_le, nm_gt, nm_ge, nm_xor, nm_add, Nat.add_sub_cancel, not_true_eq_false, not_false_eq_true, na_inj, na_le, na_lt, na_add, na_mul, na_and, na_or, na_xor, na_shl, na_shr, na_sub, i_0, i_1, i_2, i_3, i_4, i_5, i_6, i_7, i_8, i_9, i_10, i_12, i_16, i_20, i_21, i_32, i_40, i_60, rg_oth, ax_obj_of m1, ax_obj_of m2, ax_obj_of m3, rg_obj ha, rg_row hap hp, gv_rd, gv_wr, gv_set, rg_setr hap, rg_seto]
    refine k_call (c_N_reach hk6) rfl rfl rfl ?_
    simp (disch := omega) only [e_cons, e_il, e_ll, e_al, e_lc0, e_lcs, e_ei, e_el, e_er, e_const, e_istore, e_lstore, e_astore, e_iinc, e_s1_0, e_s1_1, e_s1_2, e_s1_3, e_s1_4, e_s1_5, e_s1_6, e_s1_7, e_s1_8, e_s1_9, e_s1_10, e_s2_0, e_s2_1, e_s2_2, e_s2_3, e_s2_4, e_s2_5, e_s2_6, e_s2_7, e_s2_8, e_s2_9, e_s2_10, e_dln, e_dli, e_dlr, e_dll, e_b, e_bd, e_lb, e_lbd, e_lcmp, e_i2l, e_l2i, e_i2b, e_dupi, e_dupr, e_dup2, e_getf, e_at0, e_ats, e_putI, e_putL, e_putR, e_gets, e_alen, e_iald, e_iast, e_bast, e_aast, e_if1, e_if2, e_goto, e_sw, e_iret, e_zret, e_lret, e_vret, e_obji, List.set_cons_zero, List.set_cons_succ, List.set_nil, Option.toList, List.nil_append, List.cons_append, List.length_cons, List.length_nil, true_or, or_true, true_and, and_true, nd_fold, Nat.one_mul, ↓m_1, ↓m_2, ↓m_3, ↓m_4, ↓m_9, ↓m_1000, nm_ne, nm_ne', nm_inj, nm_lt, nm_le, nm_gt, nm_ge, nm_xor, nm_add, Nat.add_sub_cancel, not_true_eq_false, not_false_eq_true, na_inj, na_le, na_lt, na_add, na_mul, na_and, na_or, na_xor, na_shl, na_shr, na_sub, i_0, i_1, i_2, i_3, i_4, i_5, i_6, i_7, i_8, i_9, i_10, i_12, i_16, i_20, i_21, i_32, i_40, i_60, rg_oth, ax_obj_of m1, ax_obj_of m2, ax_obj_of m3, rg_obj ha, rg_row hap hp, gv_rd, gv_wr, gv_set, rg_setr hap, rg_seto]
    refine k_call (c_G_firstOf (show nd c t < 256 by omega) hp8 hrl) rfl rfl rfl ?_
    simp (disch := omega) only [e_cons, e_il, e_ll, e_al, e_lc0, e_lcs, e_ei, e_el, e_er, e_const, e_istore, e_lstore, e_astore, e_iinc, e_s1_0, e_s1_1, e_s1_2, e_s1_3, e_s1_4, e_s1_5, e_s1_6, e_s1_7, e_s1_8, e_s1_9, e_s1_10, e_s2_0, e_s2_1, e_s2_2, e_s2_3, e_s2_4, e_s2_5, e_s2_6, e_s2_7, e_s2_8, e_s2_9, e_s2_10, e_dln, e_dli, e_dlr, e_dll, e_b, e_bd, e_lb, e_lbd, e_lcmp, e_i2l, e_l2i, e_i2b, e_dupi, e_dupr, e_dup2, e_getf, e_at0, e_ats, e_putI, e_putL, e_putR, e_gets, e_alen, e_iald, e_iast, e_bast, e_aast, e_if1, e_if2, e_goto, e_sw, e_iret, e_zret, e_lret, e_vret, e_obji, List.set_cons_zero, List.set_cons_succ, List.set_nil, Option.toList, List.nil_append, List.cons_append, List.length_cons, List.length_nil, true_or, or_true, true_and, and_true, nd_fold, Nat.one_mul, ↓m_1, ↓m_2, ↓m_3, ↓m_4, ↓m_9, ↓m_1000, nm_ne, nm_ne', nm_inj, nm_lt, nm_le, nm_gt, nm_ge, nm_xor, nm_add, Nat.add_sub_cancel, not_true_eq_false, not_false_eq_true, na_inj, na_le, na_lt, na_add, na_mul, na_and, na_or, na_xor, na_shl, na_shr, na_sub, i_0, i_1, i_2, i_3, i_4, i_5, i_6, i_7, i_8, i_9, i_10, i_12, i_16, i_20, i_21, i_32, i_40, i_60, rg_oth, ax_obj_of m1, ax_obj_of m2, ax_obj_of m3, rg_obj ha, rg_row hap hp, gv_rd, gv_wr, gv_set, rg_setr hap, rg_seto]
    cases h1 : ms_fs (nd c t) ((ms_p1 (ks.getD k 0) (pcs.getD k 0) c k ps).getD k 0) 0 (ms_reach (ks.getD k 0) + 1) with
    | some q =>
      have hq := (ms_fs_lt h1).1
      have := fin (some q) (by unfold ms_find; rw [h1])
      simp only [oN] at this ⊢
      refine ⟨fun _ => this, fun h => ?_⟩
      exact absurd h (by simp (disch := omega) [nm_ne])
    | none =>
      simp only [oN]
      refine ⟨fun h => absurd h (by simp), fun _ => ?_⟩
      by_cases h4 : ks.getD k 0 = 4
      · refine ⟨fun h => absurd h4 h, fun _ => ?_⟩
        refine k_call (c_N_reach hk6) rfl rfl rfl ?_
        simp (disch := omega) only [e_cons, e_il, e_ll, e_al, e_lc0, e_lcs, e_ei, e_el, e_er, e_const, e_istore, e_lstore, e_astore, e_iinc, e_s1_0, e_s1_1, e_s1_2, e_s1_3, e_s1_4, e_s1_5, e_s1_6, e_s1_7, e_s1_8, e_s1_9, e_s1_10, e_s2_0, e_s2_1, e_s2_2, e_s2_3, e_s2_4, e_s2_5, e_s2_6, e_s2_7, e_s2_8, e_s2_9, e_s2_10, e_dln, e_dli, e_dlr, e_dll, e_b, e_bd, e_lb, e_lbd, e_lcmp, e_i2l, e_l2i, e_i2b, e_dupi, e_dupr, e_dup2, e_getf, e_at0, e_ats, e_putI, e_putL, e_putR, e_gets, e_alen, e_iald, e_iast, e_bast, e_aast, e_if1, e_if2, e_goto, e_sw, e_iret, e_zret, e_lret, e_vret, e_obji, List.set_cons_zero, List.set_cons_succ, List.set_nil, Option.toList, List.nil_append, List.cons_append, List.length_cons, List.length_nil, true_or, or_true, true_and, and_true, nd_fold, Nat.one_mul, ↓m_1, ↓m_2, ↓m_3, ↓m_4, ↓m_9, ↓m_1000, nm_ne, nm_ne', nm_inj, nm_lt, nm_le, nm_gt, nm_ge, nm_xor, nm_add, Nat.add_sub_cancel, not_true_eq_false, not_false_eq_true, na_inj, na_le, na_lt, na_add, na_mul, na_and, na_or, na_xor, na_shl, na_shr, na_sub, i_0, i_1, i_2, i_3, i_4, i_5, i_6, i_7, i_8, i_9, i_10, i_12, i_16, i_20, i_21, i_32, i_40, i_60, rg_oth, ax_obj_of m1, ax_obj_of m2, ax_obj_of m3, rg_obj ha, rg_row hap hp, gv_rd, gv_wr, gv_set, rg_setr hap, rg_seto]
        refine k_call (c_G_firstOf (show c &&& t < 256 by omega) hp8 hrl) rfl rfl rfl ?_
        simp (disch := omega) only [e_cons, e_il, e_ll, e_al, e_lc0, e_lcs, e_ei, e_el, e_er, e_const, e_istore, e_lstore, e_astore, e_iinc, e_s1_0, e_s1_1, e_s1_2, e_s1_3, e_s1_4, e_s1_5, e_s1_6, e_s1_7, e_s1_8, e_s1_9, e_s1_10, e_s2_0, e_s2_1, e_s2_2, e_s2_3, e_s2_4, e_s2_5, e_s2_6, e_s2_7, e_s2_8, e_s2_9, e_s2_10, e_dln, e_dli, e_dlr, e_dll, e_b, e_bd, e_lb, e_lbd, e_lcmp, e_i2l, e_l2i, e_i2b, e_dupi, e_dupr, e_dup2, e_getf, e_at0, e_ats, e_putI, e_putL, e_putR, e_gets, e_alen, e_iald, e_iast, e_bast, e_aast, e_if1, e_if2, e_goto, e_sw, e_iret, e_zret, e_lret, e_vret, e_obji, List.set_cons_zero, List.set_cons_succ, List.set_nil, Option.toList, List.nil_append, List.cons_append, List.length_cons, List.length_nil, true_or, or_true, true_and, and_true, nd_fold, Nat.one_mul, ↓m_1, ↓m_2, ↓m_3, ↓m_4, ↓m_9, ↓m_1000, nm_ne, nm_ne', nm_inj, nm_lt, nm_le, nm_gt, nm_ge, nm_xor, nm_add, Nat.add_sub_cancel, not_true_eq_false, not_false_eq_true, na_inj, na_le, na_lt, na_add, na_mul, na_and, na_or, na_xor, na_shl, na_shr, na_sub, i_0, i_1, i_2, i_3, i_4, i_5, i_6, i_7, i_8, i_9, i_10, i_12, i_16, i_20, i_21, i_32, i_40, i_60, rg_oth, ax_obj_of m1, ax_obj_of m2, ax_obj_of m3, rg_obj ha, rg_row hap hp, gv_rd, gv_wr, gv_set, rg_setr hap, rg_seto]
        exact fin _ (by unfold ms_find; rw [h1, if_pos h4])
      · refine ⟨fun _ => ?_, fun h => absurd h4 h⟩
        exact fin none (by unfold ms_find; rw [h1, if_neg h4])
  have hb := bz_01 (ms_is (ks.getD k 0) 3)
  refine kk_G_seat_0 _ _ _ _ _ ?_
  simp (disch := omega) only [bk_G_seat_0, e_cons, e_il, e_ll, e_al, e_lc0, e_lcs, e_ei, e_el, e_er, e_const, e_istore, e_lstore, e_astore, e_iinc, e_s1_0, e_s1_1, e_s1_2, e_s1_3, e_s1_4, e_s1_5, e_s1_6, e_s1_7, e_s1_8, e_s1_9, e_s1_10, e_s2_0, e_s2_1, e_s2_2, e_s2_3, e_s2_4, e_s2_5, e_s2_6, e_s2_7, e_s2_8, e_s2_9, e_s2_10, e_dln, e_dli, e_dlr, e_dll, e_b, e_bd, e_lb, e_lbd, e_lcmp, e_i2l, e_l2i, e_i2b, e_dupi, e_dupr, e_dup2, e_getf, e_at0, e_ats, e_putI, e_putL, e_putR, e_gets, e_alen, e_iald, e_iast, e_bast, e_aast, e_if1, e_if2, e_goto, e_sw, e_iret, e_zret, e_lret, e_vret, e_obji, List.set_cons_zero, List.set_cons_succ, List.set_nil, Option.toList, List.nil_append, List.cons_append, List.length_cons, List.length_nil, true_or, or_true, true_and, and_true, nd_fold, Nat.one_mul, ↓m_1, ↓m_2, ↓m_3, ↓m_4, ↓m_9, ↓m_1000, nm_ne, nm_ne', nm_inj, nm_lt, nm_le, nm_gt, nm_ge, nm_xor, nm_add, Nat.add_sub_cancel, not_true_eq_false, not_false_eq_true, na_inj, na_le, na_lt, na_add, na_mul, na_and, na_or, na_xor, na_shl, na_shr, na_sub, i_0, i_1, i_2, i_3, i_4, i_5, i_6, i_7, i_8, i_9, i_10, i_12, i_16, i_20, i_21, i_32, i_40, i_60, rg_oth, ax_obj_of m1, ax_obj_of m2, ax_obj_of m3, rg_obj ha, rg_row hap hp, gv_rd, gv_wr, gv_set, rg_setr hap, rg_seto]
  refine k_call (c_N_isOf hk6 (show 3 < 6 by omega)) rfl rfl rfl ?_
  simp (disch := omega) only [e_cons, e_il, e_ll, e_al, e_lc0, e_lcs, e_ei, e_el, e_er, e_const, e_istore, e_lstore, e_astore, e_iinc, e_s1_0, e_s1_1, e_s1_2, e_s1_3, e_s1_4, e_s1_5, e_s1_6, e_s1_7, e_s1_8, e_s1_9, e_s1_10, e_s2_0, e_s2_1, e_s2_2, e_s2_3, e_s2_4, e_s2_5, e_s2_6, e_s2_7, e_s2_8, e_s2_9, e_s2_10, e_dln, e_dli, e_dlr, e_dll, e_b, e_bd, e_lb, e_lbd, e_lcmp, e_i2l, e_l2i, e_i2b, e_dupi, e_dupr, e_dup2, e_getf, e_at0, e_ats, e_putI, e_putL, e_putR, e_gets, e_alen, e_iald, e_iast, e_bast, e_aast, e_if1, e_if2, e_goto, e_sw, e_iret, e_zret, e_lret, e_vret, e_obji, List.set_cons_zero, List.set_cons_succ, List.set_nil, Option.toList, List.nil_append, List.cons_append, List.length_cons, List.length_nil, true_or, or_true, true_and, and_true, nd_fold, Nat.one_mul, ↓m_1, ↓m_2, ↓m_3, ↓m_4, ↓m_9, ↓m_1000, nm_ne, nm_ne', nm_inj, nm_lt, nm_le, nm_gt, nm_ge, nm_xor, nm_add, Nat.add_sub_cancel, not_true_eq_false, not_false_eq_true, na_inj, na_le, na_lt, na_add, na_mul, na_and, na_or, na_xor, na_shl, na_shr, na_sub, i_0, i_1, i_2, i_3, i_4, i_5, i_6, i_7, i_8, i_9, i_10, i_12, i_16, i_20, i_21, i_32, i_40, i_60, rg_oth, ax_obj_of m1, ax_obj_of m2, ax_obj_of m3, rg_obj ha, rg_row hap hp, gv_rd, gv_wr, gv_set, rg_setr hap, rg_seto]
  refine ⟨fun h => ?_, fun h => ?_⟩
  · refine step _ _ ?_
    unfold ms_p1
    have : ms_is (ks.getD k 0) 3 = false := by cases h1 : ms_is (ks.getD k 0) 3 <;> simp_all [bz]
    rw [this]
    rfl
  · have h3 : ms_is (ks.getD k 0) 3 = true := by cases h1 : ms_is (ks.getD k 0) 3 <;> simp_all [bz]
    have hsl : ms_str (ks.getD k 0) (pcs.getD k 0) (ps.getD k 0) c ≤ pcs.getD k 0 := ms_str_le
    have hw7 := w7 k hk
    have hr2 := r2 k hk
    refine k_call (c_N_stride hk6 hw7.1 hw7.2 (show ps.getD k 0 < 32 by omega) r4) rfl rfl rfl ?_
    simp (disch := omega) only [e_cons, e_il, e_ll, e_al, e_lc0, e_lcs, e_ei, e_el, e_er, e_const, e_istore, e_lstore, e_astore, e_iinc, e_s1_0, e_s1_1, e_s1_2, e_s1_3, e_s1_4, e_s1_5, e_s1_6, e_s1_7, e_s1_8, e_s1_9, e_s1_10, e_s2_0, e_s2_1, e_s2_2, e_s2_3, e_s2_4, e_s2_5, e_s2_6, e_s2_7, e_s2_8, e_s2_9, e_s2_10, e_dln, e_dli, e_dlr, e_dll, e_b, e_bd, e_lb, e_lbd, e_lcmp, e_i2l, e_l2i, e_i2b, e_dupi, e_dupr, e_dup2, e_getf, e_at0, e_ats, e_putI, e_putL, e_putR, e_gets, e_alen, e_iald, e_iast, e_bast, e_aast, e_if1, e_if2, e_goto, e_sw, e_iret, e_zret, e_lret, e_vret, e_obji, List.set_cons_zero, List.set_cons_succ, List.set_nil, Option.toList, List.nil_append, List.cons_append, List.length_cons, List.length_nil, true_or, or_true, true_and, and_true, nd_fold, Nat.one_mul, ↓m_1, ↓m_2, ↓m_3, ↓m_4, ↓m_9, ↓m_1000, nm_ne, nm_ne', nm_inj, nm_lt, nm_le, nm_gt, nm_ge, nm_xor, nm_add, Nat.add_sub_cancel, not_true_eq_false, not_false_eq_true, na_inj, na_le, na_lt, na_add, na_mul, na_and, na_or, na_xor, na_shl, na_shr, na_sub, i_0, i_1, i_2, i_3, i_4, i_5, i_6, i_7, i_8, i_9, i_10, i_12, i_16, i_20, i_21, i_32, i_40, i_60, and7, rg_oth, ax_obj_of m1, ax_obj_of m2, ax_obj_of m3, rg_obj ha, rg_row hap hp, gv_rd, gv_wr, gv_set, rg_setr hap, rg_seto]
    refine step _ _ ?_
    unfold ms_p1
    rw [h3]
    rfl
