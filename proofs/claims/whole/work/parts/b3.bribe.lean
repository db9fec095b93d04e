/-! bribe: numbers, the class -/
def cbw (w : Nat) : Nat := (w &&& w >>> 1 &&& w >>> 2) ||| (w &&& w >>> 1 &&& w >>> 2) >>> 1 ||| (w &&& w >>> 1 &&& w >>> 2) >>> 2
def cit : Nat → Nat → Nat
  | 0, w => w
  | z + 1, w => cit z (cbw w)
theorem shr_lt {a b k : Nat} (h : a < b) : a >>> k < b := by
  rw [Nat.shiftRight_eq_div_pow]
  exact Nat.lt_of_le_of_lt (Nat.div_le_self _ _) h
theorem and3_lt {w : Nat} (h : w < 8192) : (w &&& w >>> 1 &&& w >>> 2) < 8192 := Nat.lt_of_le_of_lt (Nat.le_trans Nat.and_le_left Nat.and_le_left) h
theorem cbw_lt {w : Nat} (h : w < 8192) : cbw w < 8192 := by
  have h1 := and3_lt h
  exact or_lt (n := 13) (or_lt (n := 13) h1 (shr_lt h1)) (shr_lt h1)
theorem cbw_bit {w k : Nat} : (cbw w).testBit k = ((w.testBit k && w.testBit (k + 1) && w.testBit (k + 2)) || (w.testBit (k + 1) && w.testBit (k + 2) && w.testBit (k + 3)) || (w.testBit (k + 2) && w.testBit (k + 3) && w.testBit (k + 4))) := by
  unfold cbw
  simp only [Nat.testBit_or, Nat.testBit_and, Nat.testBit_shiftRight]
  rw [show 1 + k = k + 1 by omega, show 2 + k = k + 2 by omega, show 1 + (k + 1) = k + 2 by omega, show 2 + (k + 1) = k + 3 by omega, show 1 + (k + 2) = k + 3 by omega, show 2 + (k + 2) = k + 4 by omega]
theorem and_1 (w : Nat) : w &&& 1 = bz (w.testBit 0) := bit1 w 0
theorem msbt_lt {s : cS} {i : Nat} : ∀ k, msbt s i k < 2 ^ k
  | 0 => by show 0 < 2 ^ 0; decide
  | k + 1 => by
    show msbt s i k ||| _ < 2 ^ (k + 1)
    refine or_lt (Nat.lt_trans (msbt_lt k) (pow_lt (by omega))) ?_
    split
    · exact pow_lt (by omega)
    · exact Nat.two_pow_pos _
theorem msbt_bit {s : cS} {i j : Nat} : ∀ {k : Nat}, j < k → (msbt s i k).testBit j = (asd s.mn s.nw j s.nw.2.2.1).2.1.testBit i
  | 0, h => absurd h (by omega)
  | k + 1, h => by
    show (msbt s i k ||| _).testBit j = _
    rw [Nat.testBit_or]
    by_cases e : j = k
    · subst e
      rw [Nat.testBit_lt_two_pow (msbt_lt j), Bool.false_or]
      cases (asd s.mn s.nw j s.nw.2.2.1).2.1.testBit i
      · simp
      · simp [Nat.testBit_two_pow]
    · rw [msbt_bit (by omega)]
      have : (if (asd s.mn s.nw k s.nw.2.2.1).2.1.testBit i = true then 2 ^ k else 0).testBit j = false := by
        split
        · rw [Nat.testBit_two_pow]
          exact decide_eq_false (fun g => e g.symm)
        · exact Nat.zero_testBit j
      rw [this, Bool.or_false]
theorem c_C_bribe {s : cS} {m : mS} {xs : List Value} {τ : ax_H} {i n : Nat} (h : Rel s m) (hi : i < m.mc) (hn : n ≤ 3) (hbit : s.nw.2.1.testBit i = true) : ax_ev mi_C_bribe [.ref 2, .int (nI i), .int (nI n)] (lay xs s.rw s.tx s.rm s.rr s.nx s.mn s.ru s.nw s.ra s.dd s.k0 s.k1 s.k2 s.fc s.lf s.td s.tu s.tl τ) (some (.int (nI (bz ((cit n (msbt s i (4 * n + 1))).testBit 0))))) (lay xs s.rw s.tx s.rm s.rr s.nx s.mn s.ru s.nw (casd s.mn s.nw (4 * n) s.nw.2.2.1) s.dd s.k0 s.k1 s.k2 s.fc s.lf s.td s.tu s.tl τ) := by
  have hw0 : msbt s i (4 * n + 1) < 8192 := Nat.lt_of_lt_of_le (msbt_lt _) (Nat.pow_le_pow_right (n := 2) (by omega) (show 4 * n + 1 ≤ 13 by omega))
  refine ax_beg 3 rfl rfl ?_
  simp only [ax_ent, List.replicate, List.cons_append, List.nil_append, List.append_nil]
  have loop : ∀ (z j w : Nat), j + z = n → w < 8192 → ax_go mi_C_bribe (fun v' H'' => v' = some (.int (nI (bz ((cit z w).testBit 0)))) ∧ H'' = (lay xs s.rw s.tx s.rm s.rr s.nx s.mn s.ru s.nw (casd s.mn s.nw (4 * n) s.nw.2.2.1) s.dd s.k0 s.k1 s.k2 s.fc s.lf s.td s.tu s.tl τ)) 27 (0, 0) [some (.ref 2), some (.int (nI i)), some (.int (nI n)), some (.int (nI 0)), some (.int (nI w)), some (.int (nI j))] [] (lay xs s.rw s.tx s.rm s.rr s.nx s.mn s.ru s.nw (casd s.mn s.nw (4 * n) s.nw.2.2.1) s.dd s.k0 s.k1 s.k2 s.fc s.lf s.td s.tu s.tl τ) := by
    intro z
    induction z with
    | zero =>
      intro j w e1 e2
      refine kk_C_bribe_27 _ _ _ _ _ ?_
      simp (disch := omega) only [bk_C_bribe_27, e_cons, e_il, e_ll, e_al, e_lc0, e_lcs, e_ei, e_el, e_er, e_const, e_istore, e_lstore, e_astore, e_iinc, e_s1_0, e_s1_1, e_s1_2, e_s1_3, e_s1_4, e_s1_5, e_s1_6, e_s1_7, e_s1_8, e_s1_9, e_s1_10, e_s2_0, e_s2_1, e_s2_2, e_s2_3, e_s2_4, e_s2_5, e_s2_6, e_s2_7, e_s2_8, e_s2_9, e_s2_10, e_dln, e_dli, e_dlr, e_dll, e_b, e_bd, e_lb, e_lbd, e_lcmp, e_i2l, e_l2i, e_i2b, e_dupi, e_dupr, e_dup2, e_getf, e_at0, e_ats, e_putI, e_putL, e_putR, e_gets, e_alen, e_iald, e_iast, e_bast, e_aast, e_if1, e_if2, e_goto, e_sw, e_iret, e_zret, e_lret, e_vret, e_obji, List.set_cons_zero, List.set_cons_succ, List.set_nil, Option.toList, List.nil_append, List.cons_append, List.length_cons, List.length_nil, true_or, or_true, true_and, and_true, nd_fold, Nat.one_mul, ↓m_1, ↓m_2, ↓m_3, ↓m_4, ↓m_9, ↓m_1000, nm_ne, nm_ne', nm_inj, nm_lt, nm_le, nm_gt, nm_ge, nm_xor, nm_add, Nat.add_sub_cancel, not_true_eq_false, not_false_eq_true, na_inj, na_le, na_lt, na_add, na_mul, na_and, na_or, na_xor, na_shl, na_shr, na_sub, i_0, i_1, i_2, i_3, i_4, i_5, i_6, i_7, i_8, i_9, i_10, i_12, i_16, i_20, i_21, i_32, i_40, i_60]
      refine ⟨fun _ => ?_, fun g => (by first | exact g.elim | exact absurd rfl g | exact absurd trivial g | exact absurd (Nat.le_refl _) g | (exfalso; omega) | exact absurd g (by decide) | exact absurd (show ¬ nI 1 = nI 0 by decide) g | exact absurd (by decide) g)⟩
      refine kk_C_bribe_67 _ _ _ _ _ ?_
      simp (disch := omega) only [bk_C_bribe_67, e_cons, e_il, e_ll, e_al, e_lc0, e_lcs, e_ei, e_el, e_er, e_const, e_istore, e_lstore, e_astore, e_iinc, e_s1_0, e_s1_1, e_s1_2, e_s1_3, e_s1_4, e_s1_5, e_s1_6, e_s1_7, e_s1_8, e_s1_9, e_s1_10, e_s2_0, e_s2_1, e_s2_2, e_s2_3, e_s2_4, e_s2_5, e_s2_6, e_s2_7, e_s2_8, e_s2_9, e_s2_10, e_dln, e_dli, e_dlr, e_dll, e_b, e_bd, e_lb, e_lbd, e_lcmp, e_i2l, e_l2i, e_i2b, e_dupi, e_dupr, e_dup2, e_getf, e_at0, e_ats, e_putI, e_putL, e_putR, e_gets, e_alen, e_iald, e_iast, e_bast, e_aast, e_if1, e_if2, e_goto, e_sw, e_iret, e_zret, e_lret, e_vret, e_obji, List.set_cons_zero, List.set_cons_succ, List.set_nil, Option.toList, List.nil_append, List.cons_append, List.length_cons, List.length_nil, true_or, or_true, true_and, and_true, nd_fold, Nat.one_mul, ↓m_1, ↓m_2, ↓m_3, ↓m_4, ↓m_9, ↓m_1000, nm_ne, nm_ne', nm_inj, nm_lt, nm_le, nm_gt, nm_ge, nm_xor, nm_add, Nat.add_sub_cancel, not_true_eq_false, not_false_eq_true, na_inj, na_le, na_lt, na_add, na_mul, na_and, na_or, na_xor, na_shl, na_shr, na_sub, i_0, i_1, i_2, i_3, i_4, i_5, i_6, i_7, i_8, i_9, i_10, i_12, i_16, i_20, i_21, i_32, i_40, i_60, and_1]
      all_goals first | exact ⟨rfl, rfl⟩ | exact rfl | exact trivial
    | succ z ih =>
      intro j w e1 e2
      have h1 := and3_lt e2
      have nxt := ih (j + 1) (cbw w) (by omega) (cbw_lt e2)
      refine kk_C_bribe_27 _ _ _ _ _ ?_
      simp (disch := omega) only [bk_C_bribe_27, e_cons, e_il, e_ll, e_al, e_lc0, e_lcs, e_ei, e_el, e_er, e_const, e_istore, e_lstore, e_astore, e_iinc, e_s1_0, e_s1_1, e_s1_2, e_s1_3, e_s1_4, e_s1_5, e_s1_6, e_s1_7, e_s1_8, e_s1_9, e_s1_10, e_s2_0, e_s2_1, e_s2_2, e_s2_3, e_s2_4, e_s2_5, e_s2_6, e_s2_7, e_s2_8, e_s2_9, e_s2_10, e_dln, e_dli, e_dlr, e_dll, e_b, e_bd, e_lb, e_lbd, e_lcmp, e_i2l, e_l2i, e_i2b, e_dupi, e_dupr, e_dup2, e_getf, e_at0, e_ats, e_putI, e_putL, e_putR, e_gets, e_alen, e_iald, e_iast, e_bast, e_aast, e_if1, e_if2, e_goto, e_sw, e_iret, e_zret, e_lret, e_vret, e_obji, List.set_cons_zero, List.set_cons_succ, List.set_nil, Option.toList, List.nil_append, List.cons_append, List.length_cons, List.length_nil, true_or, or_true, true_and, and_true, nd_fold, Nat.one_mul, ↓m_1, ↓m_2, ↓m_3, ↓m_4, ↓m_9, ↓m_1000, nm_ne, nm_ne', nm_inj, nm_lt, nm_le, nm_gt, nm_ge, nm_xor, nm_add, Nat.add_sub_cancel, not_true_eq_false, not_false_eq_true, na_inj, na_le, na_lt, na_add, na_mul, na_and, na_or, na_xor, na_shl, na_shr, na_sub, i_0, i_1, i_2, i_3, i_4, i_5, i_6, i_7, i_8, i_9, i_10, i_12, i_16, i_20, i_21, i_32, i_40, i_60]
      refine ⟨fun g => (by first | exact g.elim | exact absurd rfl g | exact absurd trivial g | exact absurd (Nat.le_refl _) g | (exfalso; omega) | exact absurd g (by decide) | exact absurd (show ¬ nI 1 = nI 0 by decide) g | exact absurd (by decide) g), fun _ => ?_⟩
      exact nxt
  refine kk_C_bribe_0 _ _ _ _ _ ?_
  simp (disch := omega) only [bk_C_bribe_0, e_cons, e_il, e_ll, e_al, e_lc0, e_lcs, e_ei, e_el, e_er, e_const, e_istore, e_lstore, e_astore, e_iinc, e_s1_0, e_s1_1, e_s1_2, e_s1_3, e_s1_4, e_s1_5, e_s1_6, e_s1_7, e_s1_8, e_s1_9, e_s1_10, e_s2_0, e_s2_1, e_s2_2, e_s2_3, e_s2_4, e_s2_5, e_s2_6, e_s2_7, e_s2_8, e_s2_9, e_s2_10, e_dln, e_dli, e_dlr, e_dll, e_b, e_bd, e_lb, e_lbd, e_lcmp, e_i2l, e_l2i, e_i2b, e_dupi, e_dupr, e_dup2, e_getf, e_at0, e_ats, e_putI, e_putL, e_putR, e_gets, e_alen, e_iald, e_iast, e_bast, e_aast, e_if1, e_if2, e_goto, e_sw, e_iret, e_zret, e_lret, e_vret, e_obji, List.set_cons_zero, List.set_cons_succ, List.set_nil, Option.toList, List.nil_append, List.cons_append, List.length_cons, List.length_nil, true_or, or_true, true_and, and_true, nd_fold, Nat.one_mul, ↓m_1, ↓m_2, ↓m_3, ↓m_4, ↓m_9, ↓m_1000, nm_ne, nm_ne', nm_inj, nm_lt, nm_le, nm_gt, nm_ge, nm_xor, nm_add, Nat.add_sub_cancel, not_true_eq_false, not_false_eq_true, na_inj, na_le, na_lt, na_add, na_mul, na_and, na_or, na_xor, na_shl, na_shr, na_sub, i_0, i_1, i_2, i_3, i_4, i_5, i_6, i_7, i_8, i_9, i_10, i_12, i_16, i_20, i_21, i_32, i_40, i_60]
  refine k_callV gl_2 (c_C_aside h (by omega) hi hn) rfl rfl rfl ?_
  rw [hbit]
  simp only [if_true]
  simp (disch := omega) only [e_cons, e_il, e_ll, e_al, e_lc0, e_lcs, e_ei, e_el, e_er, e_const, e_istore, e_lstore, e_astore, e_iinc, e_s1_0, e_s1_1, e_s1_2, e_s1_3, e_s1_4, e_s1_5, e_s1_6, e_s1_7, e_s1_8, e_s1_9, e_s1_10, e_s2_0, e_s2_1, e_s2_2, e_s2_3, e_s2_4, e_s2_5, e_s2_6, e_s2_7, e_s2_8, e_s2_9, e_s2_10, e_dln, e_dli, e_dlr, e_dll, e_b, e_bd, e_lb, e_lbd, e_lcmp, e_i2l, e_l2i, e_i2b, e_dupi, e_dupr, e_dup2, e_getf, e_at0, e_ats, e_putI, e_putL, e_putR, e_gets, e_alen, e_iald, e_iast, e_bast, e_aast, e_if1, e_if2, e_goto, e_sw, e_iret, e_zret, e_lret, e_vret, e_obji, List.set_cons_zero, List.set_cons_succ, List.set_nil, Option.toList, List.nil_append, List.cons_append, List.length_cons, List.length_nil, true_or, or_true, true_and, and_true, nd_fold, Nat.one_mul, ↓m_1, ↓m_2, ↓m_3, ↓m_4, ↓m_9, ↓m_1000, nm_ne, nm_ne', nm_inj, nm_lt, nm_le, nm_gt, nm_ge, nm_xor, nm_add, Nat.add_sub_cancel, not_true_eq_false, not_false_eq_true, na_inj, na_le, na_lt, na_add, na_mul, na_and, na_or, na_xor, na_shl, na_shr, na_sub, i_0, i_1, i_2, i_3, i_4, i_5, i_6, i_7, i_8, i_9, i_10, i_12, i_16, i_20, i_21, i_32, i_40, i_60]
  refine ⟨fun _ => ?_, fun g => (by first | exact g.elim | exact absurd rfl g | exact absurd trivial g | exact absurd (Nat.le_refl _) g | (exfalso; omega) | exact absurd g (by decide) | exact absurd (show ¬ nI 1 = nI 0 by decide) g | exact absurd (by decide) g)⟩
  refine kk_C_bribe_14 _ _ _ _ _ ?_
  simp (disch := omega) only [bk_C_bribe_14, e_cons, e_il, e_ll, e_al, e_lc0, e_lcs, e_ei, e_el, e_er, e_const, e_istore, e_lstore, e_astore, e_iinc, e_s1_0, e_s1_1, e_s1_2, e_s1_3, e_s1_4, e_s1_5, e_s1_6, e_s1_7, e_s1_8, e_s1_9, e_s1_10, e_s2_0, e_s2_1, e_s2_2, e_s2_3, e_s2_4, e_s2_5, e_s2_6, e_s2_7, e_s2_8, e_s2_9, e_s2_10, e_dln, e_dli, e_dlr, e_dll, e_b, e_bd, e_lb, e_lbd, e_lcmp, e_i2l, e_l2i, e_i2b, e_dupi, e_dupr, e_dup2, e_getf, e_at0, e_ats, e_putI, e_putL, e_putR, e_gets, e_alen, e_iald, e_iast, e_bast, e_aast, e_if1, e_if2, e_goto, e_sw, e_iret, e_zret, e_lret, e_vret, e_obji, List.set_cons_zero, List.set_cons_succ, List.set_nil, Option.toList, List.nil_append, List.cons_append, List.length_cons, List.length_nil, true_or, or_true, true_and, and_true, nd_fold, Nat.one_mul, ↓m_1, ↓m_2, ↓m_3, ↓m_4, ↓m_9, ↓m_1000, nm_ne, nm_ne', nm_inj, nm_lt, nm_le, nm_gt, nm_ge, nm_xor, nm_add, Nat.add_sub_cancel, not_true_eq_false, not_false_eq_true, na_inj, na_le, na_lt, na_add, na_mul, na_and, na_or, na_xor, na_shl, na_shr, na_sub, i_0, i_1, i_2, i_3, i_4, i_5, i_6, i_7, i_8, i_9, i_10, i_12, i_16, i_20, i_21, i_32, i_40, i_60]
  refine k_callV gl_2 (c_C_barsIn h hi (show 4 * n < 30 by omega)) rfl rfl rfl ?_
  simp (disch := omega) only [e_cons, e_il, e_ll, e_al, e_lc0, e_lcs, e_ei, e_el, e_er, e_const, e_istore, e_lstore, e_astore, e_iinc, e_s1_0, e_s1_1, e_s1_2, e_s1_3, e_s1_4, e_s1_5, e_s1_6, e_s1_7, e_s1_8, e_s1_9, e_s1_10, e_s2_0, e_s2_1, e_s2_2, e_s2_3, e_s2_4, e_s2_5, e_s2_6, e_s2_7, e_s2_8, e_s2_9, e_s2_10, e_dln, e_dli, e_dlr, e_dll, e_b, e_bd, e_lb, e_lbd, e_lcmp, e_i2l, e_l2i, e_i2b, e_dupi, e_dupr, e_dup2, e_getf, e_at0, e_ats, e_putI, e_putL, e_putR, e_gets, e_alen, e_iald, e_iast, e_bast, e_aast, e_if1, e_if2, e_goto, e_sw, e_iret, e_zret, e_lret, e_vret, e_obji, List.set_cons_zero, List.set_cons_succ, List.set_nil, Option.toList, List.nil_append, List.cons_append, List.length_cons, List.length_nil, true_or, or_true, true_and, and_true, nd_fold, Nat.one_mul, ↓m_1, ↓m_2, ↓m_3, ↓m_4, ↓m_9, ↓m_1000, nm_ne, nm_ne', nm_inj, nm_lt, nm_le, nm_gt, nm_ge, nm_xor, nm_add, Nat.add_sub_cancel, not_true_eq_false, not_false_eq_true, na_inj, na_le, na_lt, na_add, na_mul, na_and, na_or, na_xor, na_shl, na_shr, na_sub, i_0, i_1, i_2, i_3, i_4, i_5, i_6, i_7, i_8, i_9, i_10, i_12, i_16, i_20, i_21, i_32, i_40, i_60]
  exact loop n 0 _ (by omega) hw0
/-! bribe: the reference's numbers -/
def wrd (s : cS) (i k : Nat) : Nat := bz ((asd s.mn s.nw k s.nw.2.2.1).2.1.testBit i)
def mW1 (s : cS) (i : Nat) : Nat → Nat → List Nat → List Nat
  | 0, _, W => W
  | z + 1, k, W => mW1 s i z (k + 1) (W.set k (wrd s i k))
def wst (ev : Bool) (W : List Nat) (k : Nat) : Nat := if ev then (if 0 < W.getD k 0 + W.getD (k + 1) 0 + W.getD (k + 2) 0 then 1 else 0) else (if W.getD k 0 + W.getD (k + 1) 0 + W.getD (k + 2) 0 = 3 then 1 else 0)
def mWi (ev : Bool) : Nat → Nat → List Nat → List Nat
  | 0, _, W => W
  | z + 1, k, W => mWi ev z (k + 1) (W.set k (wst ev W k))
def mW2 : Nat → List Nat → List Nat
  | 0, W => W
  | t + 1, W => mW2 t (mWi (decide (t % 2 = 0)) (2 * t + 1) 0 W)
theorem mW1_len {s : cS} {i : Nat} : ∀ {z k : Nat} {W : List Nat}, (mW1 s i z k W).length = W.length
  | 0, _, _ => rfl
  | z + 1, k, W => by unfold mW1; rw [mW1_len, List.length_set]
theorem mWi_len {ev : Bool} : ∀ {z k : Nat} {W : List Nat}, (mWi ev z k W).length = W.length
  | 0, _, _ => rfl
  | z + 1, k, W => by unfold mWi; rw [mWi_len, List.length_set]
theorem mW2_len : ∀ {t : Nat} {W : List Nat}, (mW2 t W).length = W.length
  | 0, _ => rfl
  | t + 1, W => by unfold mW2; rw [mW2_len, mWi_len]
theorem mW1_at {s : cS} {i j : Nat} : ∀ {z k : Nat} {W : List Nat}, k + z ≤ W.length → (mW1 s i z k W).getD j 0 = if k ≤ j ∧ j < k + z then wrd s i j else W.getD j 0
  | 0, k, W, _ => by rw [if_neg (by omega)]; rfl
  | z + 1, k, W, h => by
    unfold mW1
    rw [mW1_at (by rw [List.length_set]; omega), gs (by omega)]
    by_cases e : j = k
    · subst e
      rw [if_neg (by omega), if_pos rfl, if_pos (by omega)]
    · rw [if_neg e]
      by_cases e2 : k + 1 ≤ j ∧ j < k + 1 + z
      · rw [if_pos e2, if_pos (by omega)]
      · rw [if_neg e2, if_neg (by omega)]
theorem mWi_at {ev : Bool} {j : Nat} : ∀ {z k : Nat} {W : List Nat}, k + z ≤ W.length → (mWi ev z k W).getD j 0 = if k ≤ j ∧ j < k + z then wst ev W j else W.getD j 0
  | 0, k, W, _ => by rw [if_neg (by omega)]; rfl
  | z + 1, k, W, h => by
    unfold mWi
    rw [mWi_at (by rw [List.length_set]; omega), gs (by omega)]
    by_cases e : j = k
    · subst e
      rw [if_neg (by omega), if_pos rfl, if_pos (by omega)]
    · rw [if_neg e]
      by_cases e2 : k + 1 ≤ j ∧ j < k + 1 + z
      · rw [if_pos e2, if_pos (by omega)]
        generalize wst ev W k = v
        have e3 : ∀ x, k < x → (W.set k v).getD x 0 = W.getD x 0 := fun x hx => by rw [gs (by omega), if_neg (by omega)]
        unfold wst
        rw [e3 j (by omega), e3 (j + 1) (by omega), e3 (j + 2) (by omega)]
      · rw [if_neg e2, if_neg (by omega)]
theorem wst_and {W : List Nat} {w k : Nat} (h0 : W.getD k 0 = bz (w.testBit k)) (h1 : W.getD (k + 1) 0 = bz (w.testBit (k + 1))) (h2 : W.getD (k + 2) 0 = bz (w.testBit (k + 2))) : wst false W k = bz (w.testBit k && w.testBit (k + 1) && w.testBit (k + 2)) := by
  unfold wst
  rw [h0, h1, h2]
  cases w.testBit k <;> cases w.testBit (k + 1) <;> cases w.testBit (k + 2) <;> rfl
theorem wst_or {W : List Nat} {k : Nat} {a b c : Bool} (h0 : W.getD k 0 = bz a) (h1 : W.getD (k + 1) 0 = bz b) (h2 : W.getD (k + 2) 0 = bz c) : wst true W k = bz (a || b || c) := by
  unfold wst
  rw [h0, h1, h2]
  cases a <;> cases b <;> cases c <;> rfl
theorem mW2_eq : ∀ {z w : Nat} {W : List Nat}, z ≤ 3 → W.length = 13 → (∀ k, k ≤ 4 * z → W.getD k 0 = bz (w.testBit k)) → (mW2 (2 * z) W).getD 0 0 = bz ((cit z w).testBit 0)
  | 0, w, W, _, _, h => h 0 (by omega)
  | z + 1, w, W, hz, hl, h => by
    have e : mW2 (2 * (z + 1)) W = mW2 (2 * z) (mWi true (4 * z + 1) 0 (mWi false (4 * z + 3) 0 W)) := by
      show mW2 (2 * z) (mWi (decide (2 * z % 2 = 0)) (2 * (2 * z) + 1) 0 (mWi (decide ((2 * z + 1) % 2 = 0)) (2 * (2 * z + 1) + 1) 0 W)) = _
      rw [decide_eq_true (show 2 * z % 2 = 0 by omega), decide_eq_false (show ¬ (2 * z + 1) % 2 = 0 by omega), show 2 * (2 * z) + 1 = 4 * z + 1 by omega, show 2 * (2 * z + 1) + 1 = 4 * z + 3 by omega]
    rw [e]
    unfold cit
    refine mW2_eq (by omega) (by rw [mWi_len, mWi_len]; exact hl) fun k hk => ?_
    have h1 : ∀ j, j ≤ 4 * z + 2 → (mWi false (4 * z + 3) 0 W).getD j 0 = bz (w.testBit j && w.testBit (j + 1) && w.testBit (j + 2)) := by
      intro j hj
      rw [mWi_at (by omega), if_pos (by omega)]
      exact wst_and (h j (by omega)) (h (j + 1) (by omega)) (h (j + 2) (by omega))
    rw [mWi_at (by rw [mWi_len]; omega), if_pos (by omega), cbw_bit]
    exact wst_or (h1 k (by omega)) (h1 (k + 1) (by omega)) (h1 (k + 2) (by omega))
theorem wst_le {ev : Bool} {W : List Nat} {k : Nat} : wst ev W k ≤ 1 := by
  unfold wst
  split
  · split <;> omega
  · split <;> omega
