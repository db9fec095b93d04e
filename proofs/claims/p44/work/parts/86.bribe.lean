/-! taken over: bribe, odds, mid, lots -/
def cbw (w : Nat) : Nat := (w &&& w >>> 1 &&& w >>> 2) ||| (w &&& w >>> 1 &&& w >>> 2) >>> 1 ||| (w &&& w >>> 1 &&& w >>> 2) >>> 2
def cit : Nat → Nat → Nat
  | 0, w => w
  | z + 1, w => cit z (cbw w)
theorem shr_lt {a b k : Nat} (h : a < b) : a >>> k < b := by
  rw [Nat.shiftRight_eq_div_pow]
  exact Nat.lt_of_le_of_lt (Nat.div_le_self _ _) h
theorem and3_lt {w : Nat} (h : w < 8192) : (w &&& w >>> 1 &&& w >>> 2) < 8192 := Nat.lt_of_le_of_lt (Nat.le_trans Nat.and_le_left Nat.and_le_left) h
theorem cbw_lt {w : Nat} (h : w < 8192) : cbw w < 8192 := by
  have h1 := and3_lt h
  exact or_lt (n := 13) (or_lt (n := 13) h1 (shr_lt h1)) (shr_lt h1)
theorem cbw_bit {w k : Nat} : (cbw w).testBit k = ((w.testBit k && w.testBit (k + 1) && w.testBit (k + 2)) || (w.testBit (k + 1) && w.testBit (k + 2) && w.testBit (k + 3)) || (w.testBit (k + 2) && w.testBit (k + 3) && w.testBit (k + 4))) := by
  unfold cbw
  simp only [Nat.testBit_or, Nat.testBit_and, Nat.testBit_shiftRight]
  rw [show 1 + k = k + 1 by omega, show 2 + k = k + 2 by omega, show 1 + (k + 1) = k + 2 by omega, show 2 + (k + 1) = k + 3 by omega, show 1 + (k + 2) = k + 3 by omega, show 2 + (k + 2) = k + 4 by omega]
theorem and_1 (w : Nat) : w &&& 1 = bz (w.testBit 0) := bit1 w 0
theorem msbt_lt {s : cS} {i : Nat} : ∀ k, msbt s i k < 2 ^ k
  | 0 => by show 0 < 2 ^ 0; decide
  | k + 1 => by
    show msbt s i k ||| _ < 2 ^ (k + 1)
    refine or_lt (Nat.lt_trans (msbt_lt k) (pow_lt (by omega))) ?_
    split
    · exact pow_lt (by omega)
    · exact Nat.two_pow_pos _
theorem msbt_bit {s : cS} {i j : Nat} : ∀ {k : Nat}, j < k → (msbt s i k).testBit j = (asd s.mn s.nw j s.nw.2.2.1).2.1.testBit i
  | 0, h => absurd h (by omega)
  | k + 1, h => by
    show (msbt s i k ||| _).testBit j = _
    rw [Nat.testBit_or]
    by_cases e : j = k
    · subst e
      rw [Nat.testBit_lt_two_pow (msbt_lt j), Bool.false_or]
      cases (asd s.mn s.nw j s.nw.2.2.1).2.1.testBit i
      · simp
      · simp [Nat.testBit_two_pow]
    · rw [msbt_bit (by omega)]
      have : (if (asd s.mn s.nw k s.nw.2.2.1).2.1.testBit i = true then 2 ^ k else 0).testBit j = false := by
        split
        · rw [Nat.testBit_two_pow]
          exact decide_eq_false (fun g => e g.symm)
        · exact Nat.zero_testBit j
      rw [this, Bool.or_false]
theorem c_C_bribe {s : cS} {m : mS} {xs : List Value} {τ : ax_H} {i n : Nat} (h : Rel s m) (hi : i < m.mc) (hn : n ≤ 3) (hbit : s.nw.2.1.testBit i = true) : ax_ev mi_C_bribe [.ref 2, .int (nI i), .int (nI n)] (lay xs s.rw s.tx s.rm s.rr s.nx s.mn s.ru s.nw s.ra s.dd s.k0 s.k1 s.k2 s.fc s.lf s.td s.tu s.tl τ) (some (.int (nI (bz ((cit n (msbt s i (4 * n + 1))).testBit 0))))) (lay xs s.rw s.tx s.rm s.rr s.nx s.mn s.ru s.nw (casd s.mn s.nw (4 * n) s.nw.2.2.1) s.dd s.k0 s.k1 s.k2 s.fc s.lf s.td s.tu s.tl τ) := by
  have hw0 : msbt s i (4 * n + 1) < 8192 := Nat.lt_of_lt_of_le (msbt_lt _) (Nat.pow_le_pow_right (n := 2) (by omega) (show 4 * n + 1 ≤ 13 by omega))
  refine ax_beg 3 rfl rfl ?_
  simp only [ax_ent, List.replicate, List.cons_append, List.nil_append, List.append_nil]
  have loop : ∀ (z j w : Nat), j + z = n → w < 8192 → ax_go mi_C_bribe (fun v' H'' => v' = some (.int (nI (bz ((cit z w).testBit 0)))) ∧ H'' = (lay xs s.rw s.tx s.rm s.rr s.nx s.mn s.ru s.nw (casd s.mn s.nw (4 * n) s.nw.2.2.1) s.dd s.k0 s.k1 s.k2 s.fc s.lf s.td s.tu s.tl τ)) 27 (0, 0) [some (.ref 2), some (.int (nI i)), some (.int (nI n)), some (.int (nI 0)), some (.int (nI w)), some (.int (nI j))] [] (lay xs s.rw s.tx s.rm s.rr s.nx s.mn s.ru s.nw (casd s.mn s.nw (4 * n) s.nw.2.2.1) s.dd s.k0 s.k1 s.k2 s.fc s.lf s.td s.tu s.tl τ) := by
    intro z
    induction z with
    | zero =>
      intro j w e1 e2
      refine kk_C_bribe_27 _ _ _ _ _ ?_
      simp (disch := omega) only [bk_C_bribe_27, e_cons, e_il, e_ll, e_al, e_lc0, e_lcs, e_ei, e_el, e_er, e_const, e_istore, e_lstore, e_astore, e_iinc, e_s1_0, e_s1_1, e_s1_2, e_s1_3, e_s1_4, e_s1_5, e_s1_6, e_s1_7, e_s1_8, e_s1_9, e_s1_10, e_s2_0, e_s2_1, e_s2_2, e_s2_3, e_s2_4, e_s2_5, e_s2_6, e_s2_7, e_s2_8, e_s2_9, e_s2_10, e_dln, e_dli, e_dlr, e_dll, e_b, e_bd, e_lb, e_lbd, e_lcmp, e_i2l, e_l2i, e_i2b, e_dupi, e_dupr, e_dup2, e_getf, e_at0, e_ats, e_putI, e_putL, e_putR, e_gets, e_alen, e_iald, e_iast, e_bast, e_aast, e_if1, e_if2, e_goto, e_sw, e_iret, e_zret, e_lret, e_vret, e_obji, List.set_cons_zero, List.set_cons_succ, List.set_nil, Option.toList, List.nil_append, List.cons_append, List.length_cons, List.length_nil, true_or, or_true, true_and, and_true, nd_fold, Nat.one_mul, ↓m_1, ↓m_2, ↓m_3, ↓m_4, ↓m_9, ↓m_1000, nm_ne, nm_ne', nm_inj, nm_lt, nm_le, nm_gt, nm_ge, nm_xor, nm_add, Nat.add_sub_cancel, not_true_eq_false, not_false_eq_true, na_inj, na_le, na_lt, na_add, na_mul, na_and, na_or, na_xor, na_shl, na_shr, na_sub, i_0, i_1, i_2, i_3, i_4, i_5, i_6, i_7, i_8, i_9, i_10, i_12, i_16, i_20, i_21, i_32, i_40, i_60]
      refine ⟨fun _ => ?_, fun g => (by first | exact g.elim | exact absurd rfl g | exact absurd trivial g | exact absurd (Nat.le_refl _) g | (exfalso; omega) | exact absurd g (by decide) | exact absurd (show ¬ nI 1 = nI 0 by decide) g | exact absurd (by decide) g)⟩
      refine kk_C_bribe_67 _ _ _ _ _ ?_
      simp (disch := omega) only [bk_C_bribe_67, e_cons, e_il, e_ll, e_al, e_lc0, e_lcs, e_ei, e_el, e_er, e_const, e_istore, e_lstore, e_astore, e_iinc, e_s1_0, e_s1_1, e_s1_2, e_s1_3, e_s1_4, e_s1_5, e_s1_6, e_s1_7, e_s1_8, e_s1_9, e_s1_10, e_s2_0, e_s2_1, e_s2_2, e_s2_3, e_s2_4, e_s2_5, e_s2_6, e_s2_7, e_s2_8, e_s2_9, e_s2_10, e_dln, e_dli, e_dlr, e_dll, e_b, e_bd, e_lb, e_lbd, e_lcmp, e_i2l, e_l2i, e_i2b, e_dupi, e_dupr, e_dup2, e_getf, e_at0, e_ats, e_putI, e_putL, e_putR, e_gets, e_alen, e_iald, e_iast, e_bast, e_aast, e_if1, e_if2, e_goto, e_sw, e_iret, e_zret, e_lret, e_vret, e_obji, List.set_cons_zero, List.set_cons_succ, List.set_nil, Option.toList, List.nil_append, List.cons_append, List.length_cons, List.length_nil, true_or, or_true, true_and, and_true, nd_fold, Nat.one_mul, ↓m_1, ↓m_2, ↓m_3, ↓m_4, ↓m_9, ↓m_1000, nm_ne, nm_ne', nm_inj, nm_lt, nm_le, nm_gt, nm_ge, nm_xor, nm_add, Nat.add_sub_cancel, not_true_eq_false, not_false_eq_true, na_inj, na_le, na_lt, na_add, na_mul, na_and, na_or, na_xor, na_shl, na_shr, na_sub, i_0, i_1, i_2, i_3, i_4, i_5, i_6, i_7, i_8, i_9, i_10, i_12, i_16, i_20, i_21, i_32, i_40, i_60, and_1]
      all_goals first | exact ⟨rfl, rfl⟩ | exact rfl | exact trivial
    | succ z ih =>
      intro j w e1 e2
      have h1 := and3_lt e2
      have nxt := ih (j + 1) (cbw w) (by omega) (cbw_lt e2)
      refine kk_C_bribe_27 _ _ _ _ _ ?_
      simp (disch := omega) only [bk_C_bribe_27, e_cons, e_il, e_ll, e_al, e_lc0, e_lcs, e_ei, e_el, e_er, e_const, e_istore, e_lstore, e_astore, e_iinc, e_s1_0, e_s1_1, e_s1_2, e_s1_3, e_s1_4, e_s1_5, e_s1_6, e_s1_7, e_s1_8, e_s1_9, e_s1_10, e_s2_0, e_s2_1, e_s2_2, e_s2_3, e_s2_4, e_s2_5, e_s2_6, e_s2_7, e_s2_8, e_s2_9, e_s2_10, e_dln, e_dli, e_dlr, e_dll, e_b, e_bd, e_lb, e_lbd, e_lcmp, e_i2l, e_l2i, e_i2b, e_dupi, e_dupr, e_dup2, e_getf, e_at0, e_ats, e_putI, e_putL, e_putR, e_gets, e_alen, e_iald, e_iast, e_bast, e_aast, e_if1, e_if2, e_goto, e_sw, e_iret, e_zret, e_lret, e_vret, e_obji, List.set_cons_zero, List.set_cons_succ, List.set_nil, Option.toList, List.nil_append, List.cons_append, List.length_cons, List.length_nil, true_or, or_true, true_and, and_true, nd_fold, Nat.one_mul, ↓m_1, ↓m_2, ↓m_3, ↓m_4, ↓m_9, ↓m_1000, nm_ne, nm_ne', nm_inj, nm_lt, nm_le, nm_gt, nm_ge, nm_xor, nm_add, Nat.add_sub_cancel, not_true_eq_false, not_false_eq_true, na_inj, na_le, na_lt, na_add, na_mul, na_and, na_or, na_xor, na_shl, na_shr, na_sub, i_0, i_1, i_2, i_3, i_4, i_5, i_6, i_7, i_8, i_9, i_10, i_12, i_16, i_20, i_21, i_32, i_40, i_60]
      refine ⟨fun g => (by first | exact g.elim | exact absurd rfl g | exact absurd trivial g | exact absurd (Nat.le_refl _) g | (exfalso; omega) | exact absurd g (by decide) | exact absurd (show ¬ nI 1 = nI 0 by decide) g | exact absurd (by decide) g), fun _ => ?_⟩
      exact nxt
  refine kk_C_bribe_0 _ _ _ _ _ ?_
  simp (disch := omega) only [bk_C_bribe_0, e_cons, e_il, e_ll, e_al, e_lc0, e_lcs, e_ei, e_el, e_er, e_const, e_istore, e_lstore, e_astore, e_iinc, e_s1_0, e_s1_1, e_s1_2, e_s1_3, e_s1_4, e_s1_5, e_s1_6, e_s1_7, e_s1_8, e_s1_9, e_s1_10, e_s2_0, e_s2_1, e_s2_2, e_s2_3, e_s2_4, e_s2_5, e_s2_6, e_s2_7, e_s2_8, e_s2_9, e_s2_10, e_dln, e_dli, e_dlr, e_dll, e_b, e_bd, e_lb, e_lbd, e_lcmp, e_i2l, e_l2i, e_i2b, e_dupi, e_dupr, e_dup2, e_getf, e_at0, e_ats, e_putI, e_putL, e_putR, e_gets, e_alen, e_iald, e_iast, e_bast, e_aast, e_if1, e_if2, e_goto, e_sw, e_iret, e_zret, e_lret, e_vret, e_obji, List.set_cons_zero, List.set_cons_succ, List.set_nil, Option.toList, List.nil_append, List.cons_append, List.length_cons, List.length_nil, true_or, or_true, true_and, and_true, nd_fold, Nat.one_mul, ↓m_1, ↓m_2, ↓m_3, ↓m_4, ↓m_9, ↓m_1000, nm_ne, nm_ne', nm_inj, nm_lt, nm_le, nm_gt, nm_ge, nm_xor, nm_add, Nat.add_sub_cancel, not_true_eq_false, not_false_eq_true, na_inj, na_le, na_lt, na_add, na_mul, na_and, na_or, na_xor, na_shl, na_shr, na_sub, i_0, i_1, i_2, i_3, i_4, i_5, i_6, i_7, i_8, i_9, i_10, i_12, i_16, i_20, i_21, i_32, i_40, i_60]
  refine k_callV gl_2 (c_C_aside h (by omega) hi hn) rfl rfl rfl ?_
  rw [hbit]
  simp only [if_true]
  simp (disch := omega) only [e_cons, e_il, e_ll, e_al, e_lc0, e_lcs, e_ei, e_el, e_er, e_const, e_istore, e_lstore, e_astore, e_iinc, e_s1_0, e_s1_1, e_s1_2, e_s1_3, e_s1_4, e_s1_5, e_s1_6, e_s1_7, e_s1_8, e_s1_9, e_s1_10, e_s2_0, e_s2_1, e_s2_2, e_s2_3, e_s2_4, e_s2_5, e_s2_6, e_s2_7, e_s2_8, e_s2_9, e_s2_10, e_dln, e_dli, e_dlr, e_dll, e_b, e_bd, e_lb, e_lbd, e_lcmp, e_i2l, e_l2i, e_i2b, e_dupi, e_dupr, e_dup2, e_getf, e_at0, e_ats, e_putI, e_putL, e_putR, e_gets, e_alen, e_iald, e_iast, e_bast, e_aast, e_if1, e_if2, e_goto, e_sw, e_iret, e_zret, e_lret, e_vret, e_obji, List.set_cons_zero, List.set_cons_succ, List.set_nil, Option.toList, List.nil_append, List.cons_append, List.length_cons, List.length_nil, true_or, or_true, true_and, and_true, nd_fold, Nat.one_mul, ↓m_1, ↓m_2, ↓m_3, ↓m_4, ↓m_9, ↓m_1000, nm_ne, nm_ne', nm_inj, nm_lt, nm_le, nm_gt, nm_ge, nm_xor, nm_add, Nat.add_sub_cancel, not_true_eq_false, not_false_eq_true, na_inj, na_le, na_lt, na_add, na_mul, na_and, na_or, na_xor, na_shl, na_shr, na_sub, i_0, i_1, i_2, i_3, i_4, i_5, i_6, i_7, i_8, i_9, i_10, i_12, i_16, i_20, i_21, i_32, i_40, i_60]
  refine ⟨fun _ => ?_, fun g => (by first | exact g.elim | exact absurd rfl g | exact absurd trivial g | exact absurd (Nat.le_refl _) g | (exfalso; omega) | exact absurd g (by decide) | exact absurd (show ¬ nI 1 = nI 0 by decide) g | exact absurd (by decide) g)⟩
  refine kk_C_bribe_14 _ _ _ _ _ ?_
  simp (disch := omega) only [bk_C_bribe_14, e_cons, e_il, e_ll, e_al, e_lc0, e_lcs, e_ei, e_el, e_er, e_const, e_istore, e_lstore, e_astore, e_iinc, e_s1_0, e_s1_1, e_s1_2, e_s1_3, e_s1_4, e_s1_5, e_s1_6, e_s1_7, e_s1_8, e_s1_9, e_s1_10, e_s2_0, e_s2_1, e_s2_2, e_s2_3, e_s2_4, e_s2_5, e_s2_6, e_s2_7, e_s2_8, e_s2_9, e_s2_10, e_dln, e_dli, e_dlr, e_dll, e_b, e_bd, e_lb, e_lbd, e_lcmp, e_i2l, e_l2i, e_i2b, e_dupi, e_dupr, e_dup2, e_getf, e_at0, e_ats, e_putI, e_putL, e_putR, e_gets, e_alen, e_iald, e_iast, e_bast, e_aast, e_if1, e_if2, e_goto, e_sw, e_iret, e_zret, e_lret, e_vret, e_obji, List.set_cons_zero, List.set_cons_succ, List.set_nil, Option.toList, List.nil_append, List.cons_append, List.length_cons, List.length_nil, true_or, or_true, true_and, and_true, nd_fold, Nat.one_mul, ↓m_1, ↓m_2, ↓m_3, ↓m_4, ↓m_9, ↓m_1000, nm_ne, nm_ne', nm_inj, nm_lt, nm_le, nm_gt, nm_ge, nm_xor, nm_add, Nat.add_sub_cancel, not_true_eq_false, not_false_eq_true, na_inj, na_le, na_lt, na_add, na_mul, na_and, na_or, na_xor, na_shl, na_shr, na_sub, i_0, i_1, i_2, i_3, i_4, i_5, i_6, i_7, i_8, i_9, i_10, i_12, i_16, i_20, i_21, i_32, i_40, i_60]
  refine k_callV gl_2 (c_C_barsIn h hi (show 4 * n < 30 by omega)) rfl rfl rfl ?_
  simp (disch := omega) only [e_cons, e_il, e_ll, e_al, e_lc0, e_lcs, e_ei, e_el, e_er, e_const, e_istore, e_lstore, e_astore, e_iinc, e_s1_0, e_s1_1, e_s1_2, e_s1_3, e_s1_4, e_s1_5, e_s1_6, e_s1_7, e_s1_8, e_s1_9, e_s1_10, e_s2_0, e_s2_1, e_s2_2, e_s2_3, e_s2_4, e_s2_5, e_s2_6, e_s2_7, e_s2_8, e_s2_9, e_s2_10, e_dln, e_dli, e_dlr, e_dll, e_b, e_bd, e_lb, e_lbd, e_lcmp, e_i2l, e_l2i, e_i2b, e_dupi, e_dupr, e_dup2, e_getf, e_at0, e_ats, e_putI, e_putL, e_putR, e_gets, e_alen, e_iald, e_iast, e_bast, e_aast, e_if1, e_if2, e_goto, e_sw, e_iret, e_zret, e_lret, e_vret, e_obji, List.set_cons_zero, List.set_cons_succ, List.set_nil, Option.toList, List.nil_append, List.cons_append, List.length_cons, List.length_nil, true_or, or_true, true_and, and_true, nd_fold, Nat.one_mul, ↓m_1, ↓m_2, ↓m_3, ↓m_4, ↓m_9, ↓m_1000, nm_ne, nm_ne', nm_inj, nm_lt, nm_le, nm_gt, nm_ge, nm_xor, nm_add, Nat.add_sub_cancel, not_true_eq_false, not_false_eq_true, na_inj, na_le, na_lt, na_add, na_mul, na_and, na_or, na_xor, na_shl, na_shr, na_sub, i_0, i_1, i_2, i_3, i_4, i_5, i_6, i_7, i_8, i_9, i_10, i_12, i_16, i_20, i_21, i_32, i_40, i_60]
  exact loop n 0 _ (by omega) hw0
def nL (n : Nat) : Int64 := Int64.ofNat n
theorem nL_toInt {n : Nat} (h : n < 2 ^ 63) : (nL n).toInt = (n : Int) := Int64.toInt_ofNat_of_lt h
theorem la_add (a b : Nat) : nL a + nL b = nL (a + b) := by
  apply Int64.toBitVec_inj.1
  show BitVec.ofNat 64 a + BitVec.ofNat 64 b = BitVec.ofNat 64 (a + b)
  rw [BitVec.ofNat_add]
theorem la_mul (a b : Nat) : nL a * nL b = nL (a * b) := by
  apply Int64.toBitVec_inj.1
  show BitVec.ofNat 64 a * BitVec.ofNat 64 b = BitVec.ofNat 64 (a * b)
  rw [BitVec.ofNat_mul]
theorem la_sub {a b : Nat} (h : b ≤ a) : nL a - nL b = nL (a - b) := by
  have h1 : nL a = nL (a - b) + nL b := by rw [la_add, Nat.sub_add_cancel h]
  rw [h1, Int64.add_sub_cancel]
theorem la_inj {a b : Nat} (ha : a < 2 ^ 63) (hb : b < 2 ^ 63) : (nL a = nL b) = (a = b) := by
  refine propext ⟨fun h => ?_, fun h => by rw [h]⟩
  have := congrArg Int64.toInt h
  rw [nL_toInt ha, nL_toInt hb] at this
  omega
theorem la_div {a b : Nat} (ha : a < 2 ^ 63) (hb : b < 2 ^ 63) : nL a / nL b = nL (a / b) := by
  apply Int64.toInt_inj.mp
  have h2 : a / b ≤ a := Nat.div_le_self _ _
  rw [Int64.toInt_div, nL_toInt ha, nL_toInt hb, nL_toInt (by omega)]
  have hq : ((a : Int).tdiv b) = ((a / b : Nat) : Int) := (Int.ofNat_tdiv a b).symm
  rw [hq]
  generalize a / b = q at *
  rw [Int.bmod_eq_of_le] <;> omega
theorem la_rem {a b : Nat} (ha : a < 2 ^ 63) (hb : b < 2 ^ 63) : nL a - nL a / nL b * nL b = nL (a % b) := by
  have h1 := Nat.div_add_mod a b
  have h2 : a / b * b ≤ a := Nat.div_mul_le_self a b
  rw [la_div ha hb, la_mul, la_sub h2]
  congr 1
  rw [Nat.mul_comm] at h1
  omega
theorem il_n {a : Nat} (h : a < 2 ^ 31) : (nI a).toInt64 = nL a := by
  apply Int64.toInt_inj.mp
  rw [Int32.toInt_toInt64, nI_toInt h, nL_toInt (by omega)]
theorem l_0 : (0 : Int64) = nL 0 := by decide +kernel
theorem l_1 : (1 : Int64) = nL 1 := by decide +kernel
theorem l_8 : (8 : Int64) = nL 8 := by decide +kernel
theorem l_12 : (12 : Int64) = nL 12 := by decide +kernel
theorem l_48271 : (48271 : Int64) = nL 48271 := by decide +kernel
theorem l_P : (2147483647 : Int64) = nL 2147483647 := by decide +kernel
theorem lc_eq0 {u w : Int64} : (lg_cmp u w = nI 0) = (u = w) := by
  unfold lg_cmp
  split
  · next h =>
    refine propext ⟨fun g => absurd g (by decide), fun g => ?_⟩
    subst g
    exact absurd h (by have : ¬ u < u := fun k => by rw [Int64.lt_iff_toInt_lt] at k; omega
                       exact this)
  · split
    · next g => exact propext ⟨fun _ => g, fun _ => rfl⟩
    · next g => exact propext ⟨fun k => absurd k (by decide), fun k => absurd k g⟩
theorem lc_le0 {u w : Int64} : (lg_cmp u w ≤ nI 0) = (u.toInt ≤ w.toInt) := by
  have h := lc_gt (u := u) (w := w)
  refine propext ⟨fun g => ?_, fun g => ?_⟩
  · refine Int.not_lt.mp fun k => ?_
    rw [← h] at k
    exact absurd k (Int32.not_lt.mpr g)
  · refine Int32.not_lt.mp fun k => ?_
    have k' : 0 < lg_cmp u w := k
    rw [h] at k'
    omega
def gcf : Nat → Nat → Nat → Nat
  | 0, a, _ => a
  | z + 1, a, b => if b = 0 then a else gcf z b (a % b)
theorem gcf_eq : ∀ (z f a b : Nat), b < 2 ^ z → 2 * z + 1 ≤ f → gcf f a b = Nat.gcd a b
  | 0, 0, a, b, _, hf => absurd hf (by omega)
  | 0, f + 1, a, b, hb, _ => by
    have h0 : b = 0 := by have : b < 1 := hb; omega
    subst h0
    unfold gcf
    rw [if_pos rfl, Nat.gcd_zero_right]
  | z + 1, 0, a, b, _, hf => absurd hf (by omega)
  | z + 1, 1, a, b, _, hf => absurd hf (by omega)
  | z + 1, f + 2, a, b, hb, hf => by
    unfold gcf
    by_cases h0 : b = 0
    · subst h0
      rw [if_pos rfl, Nat.gcd_zero_right]
    · rw [if_neg h0]
      unfold gcf
      have hc := Nat.mod_lt a (show b > 0 by omega)
      by_cases h1 : a % b = 0
      · rw [if_pos h1, Nat.gcd_comm, Nat.gcd_rec, h1, Nat.gcd_zero_left]
      · rw [if_neg h1]
        have hr := Nat.mod_lt b (show a % b > 0 by omega)
        have hr2 : b % (a % b) ≤ b - a % b := by
          rw [Nat.mod_eq_sub_mod (by omega)]
          exact Nat.mod_le _ _
        have hp : 2 ^ (z + 1) = 2 ^ z * 2 := Nat.pow_succ 2 z
        rw [gcf_eq z f (a % b) (b % (a % b)) (by omega) (by omega)]
        conv => rhs; rw [Nat.gcd_comm, Nat.gcd_rec]
        conv => rhs; rw [Nat.gcd_rec]
        rw [Nat.gcd_comm]
theorem c_C_gcd {a b : Nat} {H : ax_H} (ha : a < 2 ^ 40) (hb : b < 2 ^ 40) : ax_ev mi_C_commonDivisor [.long (nL a), .long (nL b)] H (some (.long (nL (Nat.gcd a b)))) H := by
  refine ax_beg 7 rfl rfl ?_
  simp only [ax_ent, List.replicate, List.cons_append, List.nil_append, List.append_nil]
  have hG := gcf_eq 40 200 a b hb (by omega)
  generalize Nat.gcd a b = G at *
  have loop : ∀ (z j x y : Nat) (l9 : Option Value), j + z = 200 → x < 2 ^ 40 → y < 2 ^ 40 → gcf z x y = G → ax_go mi_C_commonDivisor (fun v' H'' => v' = some (.long (nL G)) ∧ H'' = H) 9 (0, 0) [some (.long (nL a)), none, some (.long (nL b)), none, some (.long (nL x)), none, some (.long (nL y)), none, some (.int (nI j)), l9, none] [] H := by
    intro z
    induction z with
    | zero =>
      intro j x y l9 e1 e2 e3 e4
      have e5 : x = G := e4
      have e' : j = 200 := by omega
      subst e'; subst e5
      refine kk_C_commonDivisor_9 _ _ _ _ _ ?_
      simp (disch := omega) only [bk_C_commonDivisor_9, e_cons, e_il, e_ll, e_al, e_lc0, e_lcs, e_ei, e_el, e_er, e_const, e_istore, e_lstore, e_astore, e_iinc, e_s1_0, e_s1_1, e_s1_2, e_s1_3, e_s1_4, e_s1_5, e_s1_6, e_s1_7, e_s1_8, e_s1_9, e_s1_10, e_s2_0, e_s2_1, e_s2_2, e_s2_3, e_s2_4, e_s2_5, e_s2_6, e_s2_7, e_s2_8, e_s2_9, e_s2_10, e_dln, e_dli, e_dlr, e_dll, e_b, e_bd, e_lb, e_lbd, e_lcmp, e_i2l, e_l2i, e_i2b, e_dupi, e_dupr, e_dup2, e_getf, e_at0, e_ats, e_putI, e_putL, e_putR, e_gets, e_alen, e_iald, e_iast, e_bast, e_aast, e_if1, e_if2, e_goto, e_sw, e_iret, e_zret, e_lret, e_vret, e_obji, List.set_cons_zero, List.set_cons_succ, List.set_nil, Option.toList, List.nil_append, List.cons_append, List.length_cons, List.length_nil, true_or, or_true, true_and, and_true, nd_fold, Nat.one_mul, ↓m_1, ↓m_2, ↓m_3, ↓m_4, ↓m_9, ↓m_1000, nm_ne, nm_ne', nm_inj, nm_lt, nm_le, nm_gt, nm_ge, nm_xor, nm_add, Nat.add_sub_cancel, not_true_eq_false, not_false_eq_true, na_inj, na_le, na_lt, na_add, na_mul, na_and, na_or, na_xor, na_shl, na_shr, na_sub, i_0, i_1, i_2, i_3, i_4, i_5, i_6, i_7, i_8, i_9, i_10, i_12, i_16, i_20, i_21, i_32, i_40, i_60, show (200 : Int32) = nI 200 by decide +kernel]
      refine ⟨fun _ => ?_, fun g => (by first | exact g.elim | exact absurd rfl g | exact absurd trivial g | exact absurd (Nat.le_refl _) g | (exfalso; omega) | exact absurd g (by decide) | exact absurd (show ¬ nI 1 = nI 0 by decide) g | exact absurd (by decide) g)⟩
      refine kk_C_commonDivisor_45 _ _ _ _ _ ?_
      simp (disch := omega) only [bk_C_commonDivisor_45, e_cons, e_il, e_ll, e_al, e_lc0, e_lcs, e_ei, e_el, e_er, e_const, e_istore, e_lstore, e_astore, e_iinc, e_s1_0, e_s1_1, e_s1_2, e_s1_3, e_s1_4, e_s1_5, e_s1_6, e_s1_7, e_s1_8, e_s1_9, e_s1_10, e_s2_0, e_s2_1, e_s2_2, e_s2_3, e_s2_4, e_s2_5, e_s2_6, e_s2_7, e_s2_8, e_s2_9, e_s2_10, e_dln, e_dli, e_dlr, e_dll, e_b, e_bd, e_lb, e_lbd, e_lcmp, e_i2l, e_l2i, e_i2b, e_dupi, e_dupr, e_dup2, e_getf, e_at0, e_ats, e_putI, e_putL, e_putR, e_gets, e_alen, e_iald, e_iast, e_bast, e_aast, e_if1, e_if2, e_goto, e_sw, e_iret, e_zret, e_lret, e_vret, e_obji, List.set_cons_zero, List.set_cons_succ, List.set_nil, Option.toList, List.nil_append, List.cons_append, List.length_cons, List.length_nil, true_or, or_true, true_and, and_true, nd_fold, Nat.one_mul, ↓m_1, ↓m_2, ↓m_3, ↓m_4, ↓m_9, ↓m_1000, nm_ne, nm_ne', nm_inj, nm_lt, nm_le, nm_gt, nm_ge, nm_xor, nm_add, Nat.add_sub_cancel, not_true_eq_false, not_false_eq_true, na_inj, na_le, na_lt, na_add, na_mul, na_and, na_or, na_xor, na_shl, na_shr, na_sub, i_0, i_1, i_2, i_3, i_4, i_5, i_6, i_7, i_8, i_9, i_10, i_12, i_16, i_20, i_21, i_32, i_40, i_60]
      all_goals first | exact ⟨rfl, rfl⟩ | exact rfl | exact trivial
    | succ z ih =>
      intro j x y l9 e1 e2 e3 e4
      unfold gcf at e4
      refine kk_C_commonDivisor_9 _ _ _ _ _ ?_
      simp (disch := omega) only [bk_C_commonDivisor_9, e_cons, e_il, e_ll, e_al, e_lc0, e_lcs, e_ei, e_el, e_er, e_const, e_istore, e_lstore, e_astore, e_iinc, e_s1_0, e_s1_1, e_s1_2, e_s1_3, e_s1_4, e_s1_5, e_s1_6, e_s1_7, e_s1_8, e_s1_9, e_s1_10, e_s2_0, e_s2_1, e_s2_2, e_s2_3, e_s2_4, e_s2_5, e_s2_6, e_s2_7, e_s2_8, e_s2_9, e_s2_10, e_dln, e_dli, e_dlr, e_dll, e_b, e_bd, e_lb, e_lbd, e_lcmp, e_i2l, e_l2i, e_i2b, e_dupi, e_dupr, e_dup2, e_getf, e_at0, e_ats, e_putI, e_putL, e_putR, e_gets, e_alen, e_iald, e_iast, e_bast, e_aast, e_if1, e_if2, e_goto, e_sw, e_iret, e_zret, e_lret, e_vret, e_obji, List.set_cons_zero, List.set_cons_succ, List.set_nil, Option.toList, List.nil_append, List.cons_append, List.length_cons, List.length_nil, true_or, or_true, true_and, and_true, nd_fold, Nat.one_mul, ↓m_1, ↓m_2, ↓m_3, ↓m_4, ↓m_9, ↓m_1000, nm_ne, nm_ne', nm_inj, nm_lt, nm_le, nm_gt, nm_ge, nm_xor, nm_add, Nat.add_sub_cancel, not_true_eq_false, not_false_eq_true, na_inj, na_le, na_lt, na_add, na_mul, na_and, na_or, na_xor, na_shl, na_shr, na_sub, i_0, i_1, i_2, i_3, i_4, i_5, i_6, i_7, i_8, i_9, i_10, i_12, i_16, i_20, i_21, i_32, i_40, i_60, show (200 : Int32) = nI 200 by decide +kernel, l_0, lc_eq0, la_inj, ↓la_rem]
      refine ⟨fun g => (by first | exact g.elim | exact absurd rfl g | exact absurd trivial g | exact absurd (Nat.le_refl _) g | (exfalso; omega) | exact absurd g (by decide) | exact absurd (show ¬ nI 1 = nI 0 by decide) g | exact absurd (by decide) g), fun _ => ?_⟩
      refine ⟨fun g => ?_, fun g => ?_⟩
      · rw [if_pos g] at e4
        rw [e4]
        refine kk_C_commonDivisor_45 _ _ _ _ _ ?_
        simp (disch := omega) only [bk_C_commonDivisor_45, e_cons, e_il, e_ll, e_al, e_lc0, e_lcs, e_ei, e_el, e_er, e_const, e_istore, e_lstore, e_astore, e_iinc, e_s1_0, e_s1_1, e_s1_2, e_s1_3, e_s1_4, e_s1_5, e_s1_6, e_s1_7, e_s1_8, e_s1_9, e_s1_10, e_s2_0, e_s2_1, e_s2_2, e_s2_3, e_s2_4, e_s2_5, e_s2_6, e_s2_7, e_s2_8, e_s2_9, e_s2_10, e_dln, e_dli, e_dlr, e_dll, e_b, e_bd, e_lb, e_lbd, e_lcmp, e_i2l, e_l2i, e_i2b, e_dupi, e_dupr, e_dup2, e_getf, e_at0, e_ats, e_putI, e_putL, e_putR, e_gets, e_alen, e_iald, e_iast, e_bast, e_aast, e_if1, e_if2, e_goto, e_sw, e_iret, e_zret, e_lret, e_vret, e_obji, List.set_cons_zero, List.set_cons_succ, List.set_nil, Option.toList, List.nil_append, List.cons_append, List.length_cons, List.length_nil, true_or, or_true, true_and, and_true, nd_fold, Nat.one_mul, ↓m_1, ↓m_2, ↓m_3, ↓m_4, ↓m_9, ↓m_1000, nm_ne, nm_ne', nm_inj, nm_lt, nm_le, nm_gt, nm_ge, nm_xor, nm_add, Nat.add_sub_cancel, not_true_eq_false, not_false_eq_true, na_inj, na_le, na_lt, na_add, na_mul, na_and, na_or, na_xor, na_shl, na_shr, na_sub, i_0, i_1, i_2, i_3, i_4, i_5, i_6, i_7, i_8, i_9, i_10, i_12, i_16, i_20, i_21, i_32, i_40, i_60]
        all_goals first | exact ⟨rfl, rfl⟩ | exact rfl | exact trivial
      · rw [if_neg g] at e4
        have hm := Nat.mod_lt x (show y > 0 by omega)
        refine ⟨g, ?_⟩
        exact ih (j + 1) y (x % y) _ (by omega) e3 (by omega) e4
  refine kk_C_commonDivisor_0 _ _ _ _ _ ?_
  simp (disch := omega) only [bk_C_commonDivisor_0, e_cons, e_il, e_ll, e_al, e_lc0, e_lcs, e_ei, e_el, e_er, e_const, e_istore, e_lstore, e_astore, e_iinc, e_s1_0, e_s1_1, e_s1_2, e_s1_3, e_s1_4, e_s1_5, e_s1_6, e_s1_7, e_s1_8, e_s1_9, e_s1_10, e_s2_0, e_s2_1, e_s2_2, e_s2_3, e_s2_4, e_s2_5, e_s2_6, e_s2_7, e_s2_8, e_s2_9, e_s2_10, e_dln, e_dli, e_dlr, e_dll, e_b, e_bd, e_lb, e_lbd, e_lcmp, e_i2l, e_l2i, e_i2b, e_dupi, e_dupr, e_dup2, e_getf, e_at0, e_ats, e_putI, e_putL, e_putR, e_gets, e_alen, e_iald, e_iast, e_bast, e_aast, e_if1, e_if2, e_goto, e_sw, e_iret, e_zret, e_lret, e_vret, e_obji, List.set_cons_zero, List.set_cons_succ, List.set_nil, Option.toList, List.nil_append, List.cons_append, List.length_cons, List.length_nil, true_or, or_true, true_and, and_true, nd_fold, Nat.one_mul, ↓m_1, ↓m_2, ↓m_3, ↓m_4, ↓m_9, ↓m_1000, nm_ne, nm_ne', nm_inj, nm_lt, nm_le, nm_gt, nm_ge, nm_xor, nm_add, Nat.add_sub_cancel, not_true_eq_false, not_false_eq_true, na_inj, na_le, na_lt, na_add, na_mul, na_and, na_or, na_xor, na_shl, na_shr, na_sub, i_0, i_1, i_2, i_3, i_4, i_5, i_6, i_7, i_8, i_9, i_10, i_12, i_16, i_20, i_21, i_32, i_40, i_60]
  exact loop 200 0 a b none (by omega) ha hb hG
def dwn (j : Nat) : Int32 := if j = 0 then nm 1 else nI (j - 1)
theorem dwn_s (j : Nat) : dwn (j + 1) = nI j := by unfold dwn; rw [if_neg (by omega), Nat.add_sub_cancel]
theorem dwn_eq {j : Nat} (h : j < 1000) : nI j + nm 1 = dwn j := by
  unfold dwn
  split
  · next e => subst e; decide +kernel
  · exact nm_add (by omega)
theorem dwn_sub {j : Nat} (h : j < 1000) : nI j - nI 1 = dwn j := by rw [← dwn_eq h, Int32.sub_eq_add_neg, show nm 1 = -(nI 1) from rfl]
def uS (b : Nat → Nat) (n p : Nat) : Nat → Nat
  | 0 => b n
  | r + 1 => p * 12 ^ r * b (n - (r + 1)) + (12 - p) * uS b n p r
theorem uS_le {b : Nat → Nat} {n p : Nat} (hb : ∀ k, b k ≤ 8) (hp : p ≤ 12) : ∀ r, uS b n p r ≤ 8 * 12 ^ r
  | 0 => by show b n ≤ 8 * 12 ^ 0; have := hb n; rw [Nat.pow_zero]; omega
  | r + 1 => by
    show p * 12 ^ r * b (n - (r + 1)) + (12 - p) * uS b n p r ≤ 8 * 12 ^ (r + 1)
    have h1 := uS_le hb hp (n := n) r
    have h2 : p * 12 ^ r * b (n - (r + 1)) ≤ p * 12 ^ r * 8 := Nat.mul_le_mul_left _ (hb _)
    have h3 : (12 - p) * uS b n p r ≤ (12 - p) * (8 * 12 ^ r) := Nat.mul_le_mul_left _ h1
    have h4 : p * 12 ^ r * 8 + (12 - p) * (8 * 12 ^ r) = 8 * 12 ^ (r + 1) := by
      rw [Nat.pow_succ, show p * 12 ^ r * 8 = p * (8 * 12 ^ r) by ac_rfl, ← Nat.add_mul, show p + (12 - p) = 12 by omega]
      ac_rfl
    omega
theorem pow12_le {n : Nat} (hn : n ≤ 6) : 12 ^ n ≤ 2985984 := Nat.le_trans (Nat.pow_le_pow_right (by omega) hn) (by decide)
def byw (who : Option Nat) (x : Nat) : Nat := match who with
  | some i => bz (x.testBit i)
  | none => ms_pop x
theorem byw_le (who : Option Nat) (x : Nat) : byw who x ≤ 8 := by
  unfold byw
  split
  · have := bz_le (x.testBit (by assumption)); omega
  · exact ms_pop_le x
theorem byw_one : ∀ i, i < 6 → ∀ x, x < 64 → ms_pop (x &&& 2 ^ i) = bz (x.testBit i) := by decide +kernel
theorem byw_all : ∀ x, x < 64 → x &&& 63 = x := by decide +kernel
def byk (s : cS) (who : Option Nat) (k : Nat) : Nat := byw who (asd s.mn s.nw k s.nw.2.2.1).2.1
def mgc (s : cS) (who : Option Nat) (n p : Nat) : Nat := Nat.gcd (uS (byk s who) n p n) (12 ^ n)
def mup (s : cS) (who : Option Nat) (n p : Nat) : Int64 := nL (uS (byk s who) n p n / mgc s who n p)
def mlw (s : cS) (who : Option Nat) (n p : Nat) : Int64 := nL (12 ^ n / mgc s who n p)
theorem c_C_tellMean {s : cS} {m : mS} {xs : List Value} {τ : ax_H} {S n p : Nat} {who : Option Nat} (h : Rel s m) (hn : n ≤ 6) (hp : p ≤ 12) (hS : ∀ x, x < 64 → ms_pop (x &&& S) = byw who x) : ax_ev mi_C_tellMeanOf [.ref 2, .int (nI S), .int (nI n), .int (nI p)] (lay xs s.rw s.tx s.rm s.rr s.nx s.mn s.ru s.nw s.ra s.dd s.k0 s.k1 s.k2 s.fc s.lf s.td s.tu s.tl τ) (some (.int (nI 1))) (lay xs s.rw s.tx s.rm s.rr s.nx s.mn s.ru s.nw (casd s.mn s.nw 0 s.nw.2.2.1) s.dd s.k0 s.k1 s.k2 s.fc s.lf s.td (mup s who n p) (mlw s who n p) τ) := by
  have hc : s.nw.2.2.1 < 256 := h.gnw.1.1.2.2.2
  have h12 := pow12_le hn
  have hu := uS_le (b := byk s who) (n := n) (fun k => byw_le who _) hp n
  refine ax_beg 6 rfl rfl ?_
  simp only [ax_ent, List.replicate, List.cons_append, List.nil_append, List.append_nil]
  have hg0 : 0 < mgc s who n p := Nat.gcd_pos_of_pos_right _ (Nat.pow_pos (by omega))
  have hgl : mgc s who n p ≤ 12 ^ n := Nat.le_of_dvd (Nat.pow_pos (by omega)) (Nat.gcd_dvd_right _ _)
  have gcdc := fun H => c_C_gcd (a := uS (byk s who) n p n) (b := 12 ^ n) (H := H) (by omega) (by omega)
  rw [show Nat.gcd (uS (byk s who) n p n) (12 ^ n) = mgc s who n p from rfl] at gcdc
  have bc : ∀ (k : Nat) (R : cR), k < 1000 → ax_ev mi_JI_bitCount [.int (nI ((asd s.mn s.nw k s.nw.2.2.1).2.1 &&& S))] (lay xs s.rw s.tx s.rm s.rr s.nx s.mn s.ru s.nw R s.dd s.k0 s.k1 s.k2 s.fc s.lf s.td s.tu s.tl τ) (some (.int (nI (byk s who k)))) (lay xs s.rw s.tx s.rm s.rr s.nx s.mn s.ru s.nw R s.dd s.k0 s.k1 s.k2 s.fc s.lf s.td s.tu s.tl τ) := by
    intro k R hk
    have hwf : (asd s.mn s.nw k s.nw.2.2.1).2.1 < 64 := (asd_wf h (n := k) hc).1.2.2.1
    have g := c_bitCount (n := (asd s.mn s.nw k s.nw.2.2.1).2.1 &&& S) (H := (lay xs s.rw s.tx s.rm s.rr s.nx s.mn s.ru s.nw R s.dd s.k0 s.k1 s.k2 s.fc s.lf s.td s.tu s.tl τ)) (Nat.lt_of_le_of_lt Nat.and_le_left (by omega))
    rw [hS _ hwf] at g
    exact g
  have hin : ∀ k, (casd s.mn s.nw k s.nw.2.2.1).2.1 = (asd s.mn s.nw k s.nw.2.2.1).2.1 := fun k => rfl
  have loop : ∀ (j r : Nat) (R : cR) (l9 : Option Value), j + r = n → R.1.length + R.2.2.2.2.2.2.length = 6 → (j = 0 → R = casd s.mn s.nw 0 s.nw.2.2.1) → ax_go mi_C_tellMeanOf (fun v' H'' => v' = some (.int (nI 1)) ∧ H'' = (lay xs s.rw s.tx s.rm s.rr s.nx s.mn s.ru s.nw (casd s.mn s.nw 0 s.nw.2.2.1) s.dd s.k0 s.k1 s.k2 s.fc s.lf s.td (mup s who n p) (mlw s who n p) τ)) 35 (0, 0) [some (.ref 2), some (.int (nI S)), some (.int (nI n)), some (.int (nI p)), some (.long (nL (uS (byk s who) n p r))), none, some (.long (nL (12 ^ r))), none, some (.int (dwn j)), l9] [] (lay xs s.rw s.tx s.rm s.rr s.nx s.mn s.ru s.nw R s.dd s.k0 s.k1 s.k2 s.fc s.lf s.td s.tu s.tl τ) := by
    intro j
    induction j with
    | zero =>
      intro r R l9 e1 e2 e3
      have e' : r = n := by omega
      subst e'
      rw [e3 rfl, show dwn 0 = nm 1 from rfl]
      have hlc : (lg_cmp (nL (mgc s who r p)) (nL 0) ≤ nI 0) = False := by
        rw [lc_le0, nL_toInt (by omega), nL_toInt (by omega)]
        exact eq_false (by omega)
      have hgn : ¬ mgc s who r p = 0 := by omega
      refine kk_C_tellMeanOf_35 _ _ _ _ _ ?_
      simp (disch := omega) only [bk_C_tellMeanOf_35, e_cons, e_il, e_ll, e_al, e_lc0, e_lcs, e_ei, e_el, e_er, e_const, e_istore, e_lstore, e_astore, e_iinc, e_s1_0, e_s1_1, e_s1_2, e_s1_3, e_s1_4, e_s1_5, e_s1_6, e_s1_7, e_s1_8, e_s1_9, e_s1_10, e_s2_0, e_s2_1, e_s2_2, e_s2_3, e_s2_4, e_s2_5, e_s2_6, e_s2_7, e_s2_8, e_s2_9, e_s2_10, e_dln, e_dli, e_dlr, e_dll, e_b, e_bd, e_lb, e_lbd, e_lcmp, e_i2l, e_l2i, e_i2b, e_dupi, e_dupr, e_dup2, e_getf, e_at0, e_ats, e_putI, e_putL, e_putR, e_gets, e_alen, e_iald, e_iast, e_bast, e_aast, e_if1, e_if2, e_goto, e_sw, e_iret, e_zret, e_lret, e_vret, e_obji, List.set_cons_zero, List.set_cons_succ, List.set_nil, Option.toList, List.nil_append, List.cons_append, List.length_cons, List.length_nil, true_or, or_true, true_and, and_true, nd_fold, Nat.one_mul, ↓m_1, ↓m_2, ↓m_3, ↓m_4, ↓m_9, ↓m_1000, nm_ne, nm_ne', nm_inj, nm_lt, nm_le, nm_gt, nm_ge, nm_xor, nm_add, Nat.add_sub_cancel, not_true_eq_false, not_false_eq_true, na_inj, na_le, na_lt, na_add, na_mul, na_and, na_or, na_xor, na_shl, na_shr, na_sub, i_0, i_1, i_2, i_3, i_4, i_5, i_6, i_7, i_8, i_9, i_10, i_12, i_16, i_20, i_21, i_32, i_40, i_60]
      refine ⟨fun _ => ?_, fun g => (by first | exact g.elim | exact absurd rfl g | exact absurd trivial g | exact absurd (Nat.le_refl _) g | (exfalso; omega) | exact absurd g (by decide) | exact absurd (show ¬ nI 1 = nI 0 by decide) g | exact absurd (by decide) g)⟩
      refine kk_C_tellMeanOf_97 _ _ _ _ _ ?_
      simp (disch := omega) only [bk_C_tellMeanOf_97, e_cons, e_il, e_ll, e_al, e_lc0, e_lcs, e_ei, e_el, e_er, e_const, e_istore, e_lstore, e_astore, e_iinc, e_s1_0, e_s1_1, e_s1_2, e_s1_3, e_s1_4, e_s1_5, e_s1_6, e_s1_7, e_s1_8, e_s1_9, e_s1_10, e_s2_0, e_s2_1, e_s2_2, e_s2_3, e_s2_4, e_s2_5, e_s2_6, e_s2_7, e_s2_8, e_s2_9, e_s2_10, e_dln, e_dli, e_dlr, e_dll, e_b, e_bd, e_lb, e_lbd, e_lcmp, e_i2l, e_l2i, e_i2b, e_dupi, e_dupr, e_dup2, e_getf, e_at0, e_ats, e_putI, e_putL, e_putR, e_gets, e_alen, e_iald, e_iast, e_bast, e_aast, e_if1, e_if2, e_goto, e_sw, e_iret, e_zret, e_lret, e_vret, e_obji, List.set_cons_zero, List.set_cons_succ, List.set_nil, Option.toList, List.nil_append, List.cons_append, List.length_cons, List.length_nil, true_or, or_true, true_and, and_true, nd_fold, Nat.one_mul, ↓m_1, ↓m_2, ↓m_3, ↓m_4, ↓m_9, ↓m_1000, nm_ne, nm_ne', nm_inj, nm_lt, nm_le, nm_gt, nm_ge, nm_xor, nm_add, Nat.add_sub_cancel, not_true_eq_false, not_false_eq_true, na_inj, na_le, na_lt, na_add, na_mul, na_and, na_or, na_xor, na_shl, na_shr, na_sub, i_0, i_1, i_2, i_3, i_4, i_5, i_6, i_7, i_8, i_9, i_10, i_12, i_16, i_20, i_21, i_32, i_40, i_60]
      refine k_call (gcdc _) rfl rfl rfl ?_
      simp (disch := omega) only [e_cons, e_il, e_ll, e_al, e_lc0, e_lcs, e_ei, e_el, e_er, e_const, e_istore, e_lstore, e_astore, e_iinc, e_s1_0, e_s1_1, e_s1_2, e_s1_3, e_s1_4, e_s1_5, e_s1_6, e_s1_7, e_s1_8, e_s1_9, e_s1_10, e_s2_0, e_s2_1, e_s2_2, e_s2_3, e_s2_4, e_s2_5, e_s2_6, e_s2_7, e_s2_8, e_s2_9, e_s2_10, e_dln, e_dli, e_dlr, e_dll, e_b, e_bd, e_lb, e_lbd, e_lcmp, e_i2l, e_l2i, e_i2b, e_dupi, e_dupr, e_dup2, e_getf, e_at0, e_ats, e_putI, e_putL, e_putR, e_gets, e_alen, e_iald, e_iast, e_bast, e_aast, e_if1, e_if2, e_goto, e_sw, e_iret, e_zret, e_lret, e_vret, e_obji, List.set_cons_zero, List.set_cons_succ, List.set_nil, Option.toList, List.nil_append, List.cons_append, List.length_cons, List.length_nil, true_or, or_true, true_and, and_true, nd_fold, Nat.one_mul, ↓m_1, ↓m_2, ↓m_3, ↓m_4, ↓m_9, ↓m_1000, nm_ne, nm_ne', nm_inj, nm_lt, nm_le, nm_gt, nm_ge, nm_xor, nm_add, Nat.add_sub_cancel, not_true_eq_false, not_false_eq_true, na_inj, na_le, na_lt, na_add, na_mul, na_and, na_or, na_xor, na_shl, na_shr, na_sub, i_0, i_1, i_2, i_3, i_4, i_5, i_6, i_7, i_8, i_9, i_10, i_12, i_16, i_20, i_21, i_32, i_40, i_60, l_0, hlc, la_inj, ↓la_div, hgn, oq_2, sq_2]
      refine ⟨fun g => (by first | exact g.elim | exact absurd rfl g | exact absurd trivial g | exact absurd (Nat.le_refl _) g | (exfalso; omega) | exact absurd g (by decide) | exact absurd (show ¬ nI 1 = nI 0 by decide) g | exact absurd (by decide) g), fun _ => ?_⟩
      refine kk_C_tellMeanOf_131 _ _ _ _ _ ?_
      simp (disch := omega) only [bk_C_tellMeanOf_131, e_cons, e_il, e_ll, e_al, e_lc0, e_lcs, e_ei, e_el, e_er, e_const, e_istore, e_lstore, e_astore, e_iinc, e_s1_0, e_s1_1, e_s1_2, e_s1_3, e_s1_4, e_s1_5, e_s1_6, e_s1_7, e_s1_8, e_s1_9, e_s1_10, e_s2_0, e_s2_1, e_s2_2, e_s2_3, e_s2_4, e_s2_5, e_s2_6, e_s2_7, e_s2_8, e_s2_9, e_s2_10, e_dln, e_dli, e_dlr, e_dll, e_b, e_bd, e_lb, e_lbd, e_lcmp, e_i2l, e_l2i, e_i2b, e_dupi, e_dupr, e_dup2, e_getf, e_at0, e_ats, e_putI, e_putL, e_putR, e_gets, e_alen, e_iald, e_iast, e_bast, e_aast, e_if1, e_if2, e_goto, e_sw, e_iret, e_zret, e_lret, e_vret, e_obji, List.set_cons_zero, List.set_cons_succ, List.set_nil, Option.toList, List.nil_append, List.cons_append, List.length_cons, List.length_nil, true_or, or_true, true_and, and_true, nd_fold, Nat.one_mul, ↓m_1, ↓m_2, ↓m_3, ↓m_4, ↓m_9, ↓m_1000, nm_ne, nm_ne', nm_inj, nm_lt, nm_le, nm_gt, nm_ge, nm_xor, nm_add, Nat.add_sub_cancel, not_true_eq_false, not_false_eq_true, na_inj, na_le, na_lt, na_add, na_mul, na_and, na_or, na_xor, na_shl, na_shr, na_sub, i_0, i_1, i_2, i_3, i_4, i_5, i_6, i_7, i_8, i_9, i_10, i_12, i_16, i_20, i_21, i_32, i_40, i_60]
      all_goals first | exact ⟨rfl, rfl⟩ | exact rfl | exact trivial
    | succ j ih =>
      intro r R l9 e1 e2 e3
      have nxt := fun l9 => ih (r + 1) (casd s.mn s.nw j s.nw.2.2.1) l9 (by omega) (casd_len h hc) (fun g => by rw [g])
      rw [show uS (byk s who) n p (r + 1) = p * 12 ^ r * byk s who j + (12 - p) * uS (byk s who) n p r by show p * 12 ^ r * byk s who (n - (r + 1)) + _ = _; rw [show n - (r + 1) = j by omega], Nat.pow_succ] at nxt
      have hby := byw_le who (asd s.mn s.nw j s.nw.2.2.1).2.1
      have hby2 : byk s who j ≤ 8 := hby
      rw [dwn_s]
      refine kk_C_tellMeanOf_35 _ _ _ _ _ ?_
      simp (disch := omega) only [bk_C_tellMeanOf_35, e_cons, e_il, e_ll, e_al, e_lc0, e_lcs, e_ei, e_el, e_er, e_const, e_istore, e_lstore, e_astore, e_iinc, e_s1_0, e_s1_1, e_s1_2, e_s1_3, e_s1_4, e_s1_5, e_s1_6, e_s1_7, e_s1_8, e_s1_9, e_s1_10, e_s2_0, e_s2_1, e_s2_2, e_s2_3, e_s2_4, e_s2_5, e_s2_6, e_s2_7, e_s2_8, e_s2_9, e_s2_10, e_dln, e_dli, e_dlr, e_dll, e_b, e_bd, e_lb, e_lbd, e_lcmp, e_i2l, e_l2i, e_i2b, e_dupi, e_dupr, e_dup2, e_getf, e_at0, e_ats, e_putI, e_putL, e_putR, e_gets, e_alen, e_iald, e_iast, e_bast, e_aast, e_if1, e_if2, e_goto, e_sw, e_iret, e_zret, e_lret, e_vret, e_obji, List.set_cons_zero, List.set_cons_succ, List.set_nil, Option.toList, List.nil_append, List.cons_append, List.length_cons, List.length_nil, true_or, or_true, true_and, and_true, nd_fold, Nat.one_mul, ↓m_1, ↓m_2, ↓m_3, ↓m_4, ↓m_9, ↓m_1000, nm_ne, nm_ne', nm_inj, nm_lt, nm_le, nm_gt, nm_ge, nm_xor, nm_add, Nat.add_sub_cancel, not_true_eq_false, not_false_eq_true, na_inj, na_le, na_lt, na_add, na_mul, na_and, na_or, na_xor, na_shl, na_shr, na_sub, i_0, i_1, i_2, i_3, i_4, i_5, i_6, i_7, i_8, i_9, i_10, i_12, i_16, i_20, i_21, i_32, i_40, i_60, oq_2, oq_34]
      refine ⟨fun g => (by first | exact g.elim | exact absurd rfl g | exact absurd trivial g | exact absurd (Nat.le_refl _) g | (exfalso; omega) | exact absurd g (by decide) | exact absurd (show ¬ nI 1 = nI 0 by decide) g | exact absurd (by decide) g), fun _ => ?_⟩
      refine k_callV gl_2 (c_C_asd h e2 (n := j) (show j < 1000 by omega) hc) rfl rfl rfl ?_
      simp (disch := omega) only [e_cons, e_il, e_ll, e_al, e_lc0, e_lcs, e_ei, e_el, e_er, e_const, e_istore, e_lstore, e_astore, e_iinc, e_s1_0, e_s1_1, e_s1_2, e_s1_3, e_s1_4, e_s1_5, e_s1_6, e_s1_7, e_s1_8, e_s1_9, e_s1_10, e_s2_0, e_s2_1, e_s2_2, e_s2_3, e_s2_4, e_s2_5, e_s2_6, e_s2_7, e_s2_8, e_s2_9, e_s2_10, e_dln, e_dli, e_dlr, e_dll, e_b, e_bd, e_lb, e_lbd, e_lcmp, e_i2l, e_l2i, e_i2b, e_dupi, e_dupr, e_dup2, e_getf, e_at0, e_ats, e_putI, e_putL, e_putR, e_gets, e_alen, e_iald, e_iast, e_bast, e_aast, e_if1, e_if2, e_goto, e_sw, e_iret, e_zret, e_lret, e_vret, e_obji, List.set_cons_zero, List.set_cons_succ, List.set_nil, Option.toList, List.nil_append, List.cons_append, List.length_cons, List.length_nil, true_or, or_true, true_and, and_true, nd_fold, Nat.one_mul, ↓m_1, ↓m_2, ↓m_3, ↓m_4, ↓m_9, ↓m_1000, nm_ne, nm_ne', nm_inj, nm_lt, nm_le, nm_gt, nm_ge, nm_xor, nm_add, Nat.add_sub_cancel, not_true_eq_false, not_false_eq_true, na_inj, na_le, na_lt, na_add, na_mul, na_and, na_or, na_xor, na_shl, na_shr, na_sub, i_0, i_1, i_2, i_3, i_4, i_5, i_6, i_7, i_8, i_9, i_10, i_12, i_16, i_20, i_21, i_32, i_40, i_60, oq_2, oq_36, hin, il_n, la_mul]
      refine k_call (bc j _ (by omega)) rfl rfl rfl ?_
      simp (disch := omega) only [e_cons, e_il, e_ll, e_al, e_lc0, e_lcs, e_ei, e_el, e_er, e_const, e_istore, e_lstore, e_astore, e_iinc, e_s1_0, e_s1_1, e_s1_2, e_s1_3, e_s1_4, e_s1_5, e_s1_6, e_s1_7, e_s1_8, e_s1_9, e_s1_10, e_s2_0, e_s2_1, e_s2_2, e_s2_3, e_s2_4, e_s2_5, e_s2_6, e_s2_7, e_s2_8, e_s2_9, e_s2_10, e_dln, e_dli, e_dlr, e_dll, e_b, e_bd, e_lb, e_lbd, e_lcmp, e_i2l, e_l2i, e_i2b, e_dupi, e_dupr, e_dup2, e_getf, e_at0, e_ats, e_putI, e_putL, e_putR, e_gets, e_alen, e_iald, e_iast, e_bast, e_aast, e_if1, e_if2, e_goto, e_sw, e_iret, e_zret, e_lret, e_vret, e_obji, List.set_cons_zero, List.set_cons_succ, List.set_nil, Option.toList, List.nil_append, List.cons_append, List.length_cons, List.length_nil, true_or, or_true, true_and, and_true, nd_fold, Nat.one_mul, ↓m_1, ↓m_2, ↓m_3, ↓m_4, ↓m_9, ↓m_1000, nm_ne, nm_ne', nm_inj, nm_lt, nm_le, nm_gt, nm_ge, nm_xor, nm_add, Nat.add_sub_cancel, not_true_eq_false, not_false_eq_true, na_inj, na_le, na_lt, na_add, na_mul, na_and, na_or, na_xor, na_shl, na_shr, na_sub, i_0, i_1, i_2, i_3, i_4, i_5, i_6, i_7, i_8, i_9, i_10, i_12, i_16, i_20, i_21, i_32, i_40, i_60, il_n, la_mul, la_add, l_12, dwn_eq]
      exact nxt _
  have hby2 : byk s who n ≤ 8 := byw_le who _
  refine kk_C_tellMeanOf_0 _ _ _ _ _ ?_
  simp (disch := omega) only [bk_C_tellMeanOf_0, e_cons, e_il, e_ll, e_al, e_lc0, e_lcs, e_ei, e_el, e_er, e_const, e_istore, e_lstore, e_astore, e_iinc, e_s1_0, e_s1_1, e_s1_2, e_s1_3, e_s1_4, e_s1_5, e_s1_6, e_s1_7, e_s1_8, e_s1_9, e_s1_10, e_s2_0, e_s2_1, e_s2_2, e_s2_3, e_s2_4, e_s2_5, e_s2_6, e_s2_7, e_s2_8, e_s2_9, e_s2_10, e_dln, e_dli, e_dlr, e_dll, e_b, e_bd, e_lb, e_lbd, e_lcmp, e_i2l, e_l2i, e_i2b, e_dupi, e_dupr, e_dup2, e_getf, e_at0, e_ats, e_putI, e_putL, e_putR, e_gets, e_alen, e_iald, e_iast, e_bast, e_aast, e_if1, e_if2, e_goto, e_sw, e_iret, e_zret, e_lret, e_vret, e_obji, List.set_cons_zero, List.set_cons_succ, List.set_nil, Option.toList, List.nil_append, List.cons_append, List.length_cons, List.length_nil, true_or, or_true, true_and, and_true, nd_fold, Nat.one_mul, ↓m_1, ↓m_2, ↓m_3, ↓m_4, ↓m_9, ↓m_1000, nm_ne, nm_ne', nm_inj, nm_lt, nm_le, nm_gt, nm_ge, nm_xor, nm_add, Nat.add_sub_cancel, not_true_eq_false, not_false_eq_true, na_inj, na_le, na_lt, na_add, na_mul, na_and, na_or, na_xor, na_shl, na_shr, na_sub, i_0, i_1, i_2, i_3, i_4, i_5, i_6, i_7, i_8, i_9, i_10, i_12, i_16, i_20, i_21, i_32, i_40, i_60, oq_2, oq_34]
  refine k_callV gl_2 (c_C_asd h h.asd.1 (n := n) (show n < 1000 by omega) hc) rfl rfl rfl ?_
  simp (disch := omega) only [e_cons, e_il, e_ll, e_al, e_lc0, e_lcs, e_ei, e_el, e_er, e_const, e_istore, e_lstore, e_astore, e_iinc, e_s1_0, e_s1_1, e_s1_2, e_s1_3, e_s1_4, e_s1_5, e_s1_6, e_s1_7, e_s1_8, e_s1_9, e_s1_10, e_s2_0, e_s2_1, e_s2_2, e_s2_3, e_s2_4, e_s2_5, e_s2_6, e_s2_7, e_s2_8, e_s2_9, e_s2_10, e_dln, e_dli, e_dlr, e_dll, e_b, e_bd, e_lb, e_lbd, e_lcmp, e_i2l, e_l2i, e_i2b, e_dupi, e_dupr, e_dup2, e_getf, e_at0, e_ats, e_putI, e_putL, e_putR, e_gets, e_alen, e_iald, e_iast, e_bast, e_aast, e_if1, e_if2, e_goto, e_sw, e_iret, e_zret, e_lret, e_vret, e_obji, List.set_cons_zero, List.set_cons_succ, List.set_nil, Option.toList, List.nil_append, List.cons_append, List.length_cons, List.length_nil, true_or, or_true, true_and, and_true, nd_fold, Nat.one_mul, ↓m_1, ↓m_2, ↓m_3, ↓m_4, ↓m_9, ↓m_1000, nm_ne, nm_ne', nm_inj, nm_lt, nm_le, nm_gt, nm_ge, nm_xor, nm_add, Nat.add_sub_cancel, not_true_eq_false, not_false_eq_true, na_inj, na_le, na_lt, na_add, na_mul, na_and, na_or, na_xor, na_shl, na_shr, na_sub, i_0, i_1, i_2, i_3, i_4, i_5, i_6, i_7, i_8, i_9, i_10, i_12, i_16, i_20, i_21, i_32, i_40, i_60, oq_2, oq_36, hin]
  refine k_call (bc n _ (by omega)) rfl rfl rfl ?_
  simp (disch := omega) only [e_cons, e_il, e_ll, e_al, e_lc0, e_lcs, e_ei, e_el, e_er, e_const, e_istore, e_lstore, e_astore, e_iinc, e_s1_0, e_s1_1, e_s1_2, e_s1_3, e_s1_4, e_s1_5, e_s1_6, e_s1_7, e_s1_8, e_s1_9, e_s1_10, e_s2_0, e_s2_1, e_s2_2, e_s2_3, e_s2_4, e_s2_5, e_s2_6, e_s2_7, e_s2_8, e_s2_9, e_s2_10, e_dln, e_dli, e_dlr, e_dll, e_b, e_bd, e_lb, e_lbd, e_lcmp, e_i2l, e_l2i, e_i2b, e_dupi, e_dupr, e_dup2, e_getf, e_at0, e_ats, e_putI, e_putL, e_putR, e_gets, e_alen, e_iald, e_iast, e_bast, e_aast, e_if1, e_if2, e_goto, e_sw, e_iret, e_zret, e_lret, e_vret, e_obji, List.set_cons_zero, List.set_cons_succ, List.set_nil, Option.toList, List.nil_append, List.cons_append, List.length_cons, List.length_nil, true_or, or_true, true_and, and_true, nd_fold, Nat.one_mul, ↓m_1, ↓m_2, ↓m_3, ↓m_4, ↓m_9, ↓m_1000, nm_ne, nm_ne', nm_inj, nm_lt, nm_le, nm_gt, nm_ge, nm_xor, nm_add, Nat.add_sub_cancel, not_true_eq_false, not_false_eq_true, na_inj, na_le, na_lt, na_add, na_mul, na_and, na_or, na_xor, na_shl, na_shr, na_sub, i_0, i_1, i_2, i_3, i_4, i_5, i_6, i_7, i_8, i_9, i_10, i_12, i_16, i_20, i_21, i_32, i_40, i_60, il_n, l_1, dwn_sub]
  exact loop n 0 _ none (by omega) (casd_len h hc) (fun g => by rw [g])
