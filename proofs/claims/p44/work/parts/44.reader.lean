/-! reading a CABINET: the class's reader -/
theorem i_48 : (48 : Int32) = nI 48 := by decide +kernel
theorem i_57 : (57 : Int32) = nI 57 := by decide +kernel
def ms_sk (T : Nat → Int32) : Nat → Nat → Nat
  | 0, i => i
  | z + 1, i => if T i = nI 32 then ms_sk T z (i + 1) else i
theorem ms_sk_le {T : Nat → Int32} : ∀ {z i : Nat}, ms_sk T z i ≤ i + z := by
  intro z
  induction z with
  | zero => intro i; exact Nat.le_refl _
  | succ z ih =>
    intro i
    unfold ms_sk
    split
    · have := ih (i := i + 1); omega
    · omega
theorem ms_sk_ge {T : Nat → Int32} : ∀ {z i : Nat}, i ≤ ms_sk T z i := by
  intro z
  induction z with
  | zero => intro i; exact Nat.le_refl _
  | succ z ih =>
    intro i
    unfold ms_sk
    split
    · have := ih (i := i + 1); omega
    · omega
/-- a figure -/
def dg (x : Int32) : Option Nat := if nI 48 ≤ x ∧ x ≤ nI 57 then some (x.toInt.toNat - 48) else none
theorem dg_some {x : Int32} {d : Nat} (h : dg x = some d) : d ≤ 9 ∧ x = nI (48 + d) := by
  unfold dg at h
  split at h
  · next hc =>
    cases h
    have h1 := hc.1
    have h2 := hc.2
    rw [toI_ge x (by omega)] at h1
    rw [toI_le x (by omega)] at h2
    refine ⟨by omega, ?_⟩
    conv => lhs; rw [nJ_of (x := x) (by omega)]
    congr 1
    omega
  · cases h
theorem dg_nI {d : Nat} (h : d ≤ 9) : dg (nI (48 + d)) = some d := by
  unfold dg
  have c : nI 48 ≤ nI (48 + d) ∧ nI (48 + d) ≤ nI 57 := ⟨by rw [na_le (by omega) (by omega)]; omega, by rw [na_le (by omega) (by omega)]; omega⟩
  rw [if_pos c, nI_toInt (by omega)]
  congr 1
  omega
theorem dg_sub {x : Int32} {lo hi : Nat} (h : dg x = none) (hh : hi ≤ 9) : ¬ (nI lo ≤ x - nI 48 ∧ x - nI 48 ≤ nI hi) ∨ ¬ lo < 2 ^ 31 := by
  by_cases hl : lo < 2 ^ 31
  · refine Or.inl fun ⟨h1, h2⟩ => ?_
    rw [toI_ge _ hl] at h1
    rw [toI_le _ (by omega)] at h2
    have e := nJ_of (x := x - nI 48) (by omega)
    have e2 : x = nI (48 + (x - nI 48).toInt.toNat) := by
      rw [← na_add, ← e, Int32.add_comm, Int32.sub_add_cancel]
    rw [e2, dg_nI (by omega)] at h
    cases h
  · exact Or.inr hl
def ms_fig (T : Nat → Int32) (n i lo hi : Nat) : Option Nat := if i < n then (match dg (T i) with
  | some d => if lo ≤ d ∧ d ≤ hi then some d else none
  | none => none) else none
def ms_kd (x : Int32) : Option Nat := if (109 : Int32) = x then some 0 else if (111 : Int32) = x then some 1 else if (108 : Int32) = x then some 2 else if (100 : Int32) = x then some 3 else if (97 : Int32) = x then some 4 else if (121 : Int32) = x then some 5 else none
theorem lt_len : ([.int 109, .int 111, .int 108, .int 100, .int 97, .int 121] : List Value).length = 6 := rfl
theorem lt_rd {P : Value → Prop} : (ax_rd [.int 109, .int 111, .int 108, .int 100, .int 97, .int 121] (nI 0) P = P (.int 109)) ∧ (ax_rd [.int 109, .int 111, .int 108, .int 100, .int 97, .int 121] (nI 1) P = P (.int 111)) ∧ (ax_rd [.int 109, .int 111, .int 108, .int 100, .int 97, .int 121] (nI 2) P = P (.int 108)) ∧
    (ax_rd [.int 109, .int 111, .int 108, .int 100, .int 97, .int 121] (nI 3) P = P (.int 100)) ∧ (ax_rd [.int 109, .int 111, .int 108, .int 100, .int 97, .int 121] (nI 4) P = P (.int 97)) ∧ (ax_rd [.int 109, .int 111, .int 108, .int 100, .int 97, .int 121] (nI 5) P = P (.int 121)) := by
  have key : ∀ k : Nat, k < 6 → (nI k).toNatClampNeg = k ∧ ¬ nI k < 0 := fun k hk => ⟨nI_clamp (by omega), nI_pos (by omega)⟩
  refine ⟨?_, ?_, ?_, ?_, ?_, ?_⟩ <;> simp [ax_rd, key]
theorem ms_kd_lt {x : Int32} {k : Nat} (h : ms_kd x = some k) : k < 6 := by
  unfold ms_kd at h
  repeat' (split at h)
  all_goals first | (cases h; omega) | cases h
section ER
variable {xs : List Value} {rw : List Int32 × List (List Int32)} {tx : List Int32 × List (List Int32)} {rm : List Nat × List Nat × List Nat × List Nat × List Int32 × List Int32 × List Int32 × List Int32} {rr : List Nat × Nat × Nat × Nat × Nat × Nat × List Int32} {nx : Nat} {mn : List Nat × List Nat × List Nat × List Nat × List Int32 × List Int32 × List Int32 × List Int32} {ru : List Nat × Nat × Nat × Nat × Nat × Nat × List Int32} {nw : List Nat × Nat × Nat × Nat × Nat × Nat × List Int32} {ra : List Nat × Nat × Nat × Nat × Nat × Nat × List Int32} {dd : List Nat × List Int32} {k0 : Bool × List Nat × List Int32} {k1 : Bool × List Nat × List Int32} {k2 : Bool × List Nat × List Int32} {fc : List Int32} {lf : Int32} {td : Int32} {tu : Int64} {tl : Int64} {τ : ax_H}
theorem c_E_kindOf {x : Int32} : ax_ev mi_E_kindOf [.int x] (lay xs rw tx rm rr nx mn ru nw ra dd k0 k1 k2 fc lf td tu tl τ) (some (.int (oN (ms_kd x)))) (lay xs rw tx rm rr nx mn ru nw ra dd k0 k1 k2 fc lf td tu tl τ) := by
  refine ax_beg 1 rfl rfl ?_
  simp only [ax_ent, List.replicate, List.cons_append, List.nil_append, List.append_nil]
  have l0 := fun P => (lt_rd (P := P)).1
  have l1 := fun P => (lt_rd (P := P)).2.1
  have l2 := fun P => (lt_rd (P := P)).2.2.1
  have l3 := fun P => (lt_rd (P := P)).2.2.2.1
  have l4 := fun P => (lt_rd (P := P)).2.2.2.2.1
  have l5 := fun P => (lt_rd (P := P)).2.2.2.2.2
  unfold ms_kd
  refine kk_E_kindOf_0 _ _ _ _ _ ?_
  simp (disch := omega) only [bk_E_kindOf_0, e_cons, e_il, e_ll, e_al, e_lc0, e_lcs, e_ei, e_el, e_er, e_const, e_istore, e_lstore, e_astore, e_iinc, e_s1_0, e_s1_1, e_s1_2, e_s1_3, e_s1_4, e_s1_5, e_s1_6, e_s1_7, e_s1_8, e_s1_9, e_s1_10, e_s2_0, e_s2_1, e_s2_2, e_s2_3, e_s2_4, e_s2_5, e_s2_6, e_s2_7, e_s2_8, e_s2_9, e_s2_10, e_dln, e_dli, e_dlr, e_dll, e_b, e_bd, e_lb, e_lbd, e_lcmp, e_i2l, e_l2i, e_i2b, e_dupi, e_dupr, e_dup2, e_getf, e_at0, e_ats, e_putI, e_putL, e_putR, e_gets, e_alen, e_iald, e_iast, e_bast, e_aast, e_if1, e_if2, e_goto, e_sw, e_iret, e_zret, e_lret, e_vret, e_obji, List.set_cons_zero, List.set_cons_succ, List.set_nil, Option.toList, List.nil_append, List.cons_append, List.length_cons, List.length_nil, true_or, or_true, true_and, and_true, nd_fold, Nat.one_mul, ↓m_1, ↓m_2, ↓m_3, ↓m_4, ↓m_9, ↓m_1000, nm_ne, nm_ne', nm_inj, nm_lt, nm_le, nm_gt, nm_ge, nm_xor, nm_add, Nat.add_sub_cancel, not_true_eq_false, not_false_eq_true, na_inj, na_le, na_lt, na_add, na_mul, na_and, na_or, na_xor, na_shl, na_shr, na_sub, i_0, i_1, i_2, i_3, i_4, i_5, i_6, i_7, i_8, i_9, i_10, i_12, i_16, i_20, i_21, i_32, i_40, i_60, ol_1, lt_len, l0, l1, l2, l3, l4, l5]
  refine kk_E_kindOf_2 _ _ _ _ _ ?_
  simp (disch := omega) only [bk_E_kindOf_2, e_cons, e_il, e_ll, e_al, e_lc0, e_lcs, e_ei, e_el, e_er, e_const, e_istore, e_lstore, e_astore, e_iinc, e_s1_0, e_s1_1, e_s1_2, e_s1_3, e_s1_4, e_s1_5, e_s1_6, e_s1_7, e_s1_8, e_s1_9, e_s1_10, e_s2_0, e_s2_1, e_s2_2, e_s2_3, e_s2_4, e_s2_5, e_s2_6, e_s2_7, e_s2_8, e_s2_9, e_s2_10, e_dln, e_dli, e_dlr, e_dll, e_b, e_bd, e_lb, e_lbd, e_lcmp, e_i2l, e_l2i, e_i2b, e_dupi, e_dupr, e_dup2, e_getf, e_at0, e_ats, e_putI, e_putL, e_putR, e_gets, e_alen, e_iald, e_iast, e_bast, e_aast, e_if1, e_if2, e_goto, e_sw, e_iret, e_zret, e_lret, e_vret, e_obji, List.set_cons_zero, List.set_cons_succ, List.set_nil, Option.toList, List.nil_append, List.cons_append, List.length_cons, List.length_nil, true_or, or_true, true_and, and_true, nd_fold, Nat.one_mul, ↓m_1, ↓m_2, ↓m_3, ↓m_4, ↓m_9, ↓m_1000, nm_ne, nm_ne', nm_inj, nm_lt, nm_le, nm_gt, nm_ge, nm_xor, nm_add, Nat.add_sub_cancel, not_true_eq_false, not_false_eq_true, na_inj, na_le, na_lt, na_add, na_mul, na_and, na_or, na_xor, na_shl, na_shr, na_sub, i_0, i_1, i_2, i_3, i_4, i_5, i_6, i_7, i_8, i_9, i_10, i_12, i_16, i_20, i_21, i_32, i_40, i_60, ol_1, lt_len, l0, l1, l2, l3, l4, l5]
  refine ⟨fun h => absurd h (by omega), fun _ => ⟨fun h => ?_, fun h => ?_⟩⟩
  rotate_left
  · rw [Decidable.not_not] at h
    first | rw [if_pos h] | skip
    rfl
  first | rw [if_neg h] | skip
  refine kk_E_kindOf_21 _ _ _ _ _ ?_
  simp (disch := omega) only [bk_E_kindOf_21, e_cons, e_il, e_ll, e_al, e_lc0, e_lcs, e_ei, e_el, e_er, e_const, e_istore, e_lstore, e_astore, e_iinc, e_s1_0, e_s1_1, e_s1_2, e_s1_3, e_s1_4, e_s1_5, e_s1_6, e_s1_7, e_s1_8, e_s1_9, e_s1_10, e_s2_0, e_s2_1, e_s2_2, e_s2_3, e_s2_4, e_s2_5, e_s2_6, e_s2_7, e_s2_8, e_s2_9, e_s2_10, e_dln, e_dli, e_dlr, e_dll, e_b, e_bd, e_lb, e_lbd, e_lcmp, e_i2l, e_l2i, e_i2b, e_dupi, e_dupr, e_dup2, e_getf, e_at0, e_ats, e_putI, e_putL, e_putR, e_gets, e_alen, e_iald, e_iast, e_bast, e_aast, e_if1, e_if2, e_goto, e_sw, e_iret, e_zret, e_lret, e_vret, e_obji, List.set_cons_zero, List.set_cons_succ, List.set_nil, Option.toList, List.nil_append, List.cons_append, List.length_cons, List.length_nil, true_or, or_true, true_and, and_true, nd_fold, Nat.one_mul, ↓m_1, ↓m_2, ↓m_3, ↓m_4, ↓m_9, ↓m_1000, nm_ne, nm_ne', nm_inj, nm_lt, nm_le, nm_gt, nm_ge, nm_xor, nm_add, Nat.add_sub_cancel, not_true_eq_false, not_false_eq_true, na_inj, na_le, na_lt, na_add, na_mul, na_and, na_or, na_xor, na_shl, na_shr, na_sub, i_0, i_1, i_2, i_3, i_4, i_5, i_6, i_7, i_8, i_9, i_10, i_12, i_16, i_20, i_21, i_32, i_40, i_60, ol_1, lt_len, l0, l1, l2, l3, l4, l5]
  refine kk_E_kindOf_2 _ _ _ _ _ ?_
  simp (disch := omega) only [bk_E_kindOf_2, e_cons, e_il, e_ll, e_al, e_lc0, e_lcs, e_ei, e_el, e_er, e_const, e_istore, e_lstore, e_astore, e_iinc, e_s1_0, e_s1_1, e_s1_2, e_s1_3, e_s1_4, e_s1_5, e_s1_6, e_s1_7, e_s1_8, e_s1_9, e_s1_10, e_s2_0, e_s2_1, e_s2_2, e_s2_3, e_s2_4, e_s2_5, e_s2_6, e_s2_7, e_s2_8, e_s2_9, e_s2_10, e_dln, e_dli, e_dlr, e_dll, e_b, e_bd, e_lb, e_lbd, e_lcmp, e_i2l, e_l2i, e_i2b, e_dupi, e_dupr, e_dup2, e_getf, e_at0, e_ats, e_putI, e_putL, e_putR, e_gets, e_alen, e_iald, e_iast, e_bast, e_aast, e_if1, e_if2, e_goto, e_sw, e_iret, e_zret, e_lret, e_vret, e_obji, List.set_cons_zero, List.set_cons_succ, List.set_nil, Option.toList, List.nil_append, List.cons_append, List.length_cons, List.length_nil, true_or, or_true, true_and, and_true, nd_fold, Nat.one_mul, ↓m_1, ↓m_2, ↓m_3, ↓m_4, ↓m_9, ↓m_1000, nm_ne, nm_ne', nm_inj, nm_lt, nm_le, nm_gt, nm_ge, nm_xor, nm_add, Nat.add_sub_cancel, not_true_eq_false, not_false_eq_true, na_inj, na_le, na_lt, na_add, na_mul, na_and, na_or, na_xor, na_shl, na_shr, na_sub, i_0, i_1, i_2, i_3, i_4, i_5, i_6, i_7, i_8, i_9, i_10, i_12, i_16, i_20, i_21, i_32, i_40, i_60, ol_1, lt_len, l0, l1, l2, l3, l4, l5]
  refine ⟨fun h => absurd h (by omega), fun _ => ⟨fun h => ?_, fun h => ?_⟩⟩
  rotate_left
  · rw [Decidable.not_not] at h
    first | rw [if_pos h] | skip
    rfl
  first | rw [if_neg h] | skip
  refine kk_E_kindOf_21 _ _ _ _ _ ?_
  simp (disch := omega) only [bk_E_kindOf_21, e_cons, e_il, e_ll, e_al, e_lc0, e_lcs, e_ei, e_el, e_er, e_const, e_istore, e_lstore, e_astore, e_iinc, e_s1_0, e_s1_1, e_s1_2, e_s1_3, e_s1_4, e_s1_5, e_s1_6, e_s1_7, e_s1_8, e_s1_9, e_s1_10, e_s2_0, e_s2_1, e_s2_2, e_s2_3, e_s2_4, e_s2_5, e_s2_6, e_s2_7, e_s2_8, e_s2_9, e_s2_10, e_dln, e_dli, e_dlr, e_dll, e_b, e_bd, e_lb, e_lbd, e_lcmp, e_i2l, e_l2i, e_i2b, e_dupi, e_dupr, e_dup2, e_getf, e_at0, e_ats, e_putI, e_putL, e_putR, e_gets, e_alen, e_iald, e_iast, e_bast, e_aast, e_if1, e_if2, e_goto, e_sw, e_iret, e_zret, e_lret, e_vret, e_obji, List.set_cons_zero, List.set_cons_succ, List.set_nil, Option.toList, List.nil_append, List.cons_append, List.length_cons, List.length_nil, true_or, or_true, true_and, and_true, nd_fold, Nat.one_mul, ↓m_1, ↓m_2, ↓m_3, ↓m_4, ↓m_9, ↓m_1000, nm_ne, nm_ne', nm_inj, nm_lt, nm_le, nm_gt, nm_ge, nm_xor, nm_add, Nat.add_sub_cancel, not_true_eq_false, not_false_eq_true, na_inj, na_le, na_lt, na_add, na_mul, na_and, na_or, na_xor, na_shl, na_shr, na_sub, i_0, i_1, i_2, i_3, i_4, i_5, i_6, i_7, i_8, i_9, i_10, i_12, i_16, i_20, i_21, i_32, i_40, i_60, ol_1, lt_len, l0, l1, l2, l3, l4, l5]
  refine kk_E_kindOf_2 _ _ _ _ _ ?_
  simp (disch := omega) only [bk_E_kindOf_2, e_cons, e_il, e_ll, e_al, e_lc0, e_lcs, e_ei, e_el, e_er, e_const, e_istore, e_lstore, e_astore, e_iinc, e_s1_0, e_s1_1, e_s1_2, e_s1_3, e_s1_4, e_s1_5, e_s1_6, e_s1_7, e_s1_8, e_s1_9, e_s1_10, e_s2_0, e_s2_1, e_s2_2, e_s2_3, e_s2_4, e_s2_5, e_s2_6, e_s2_7, e_s2_8, e_s2_9, e_s2_10, e_dln, e_dli, e_dlr, e_dll, e_b, e_bd, e_lb, e_lbd, e_lcmp, e_i2l, e_l2i, e_i2b, e_dupi, e_dupr, e_dup2, e_getf, e_at0, e_ats, e_putI, e_putL, e_putR, e_gets, e_alen, e_iald, e_iast, e_bast, e_aast, e_if1, e_if2, e_goto, e_sw, e_iret, e_zret, e_lret, e_vret, e_obji, List.set_cons_zero, List.set_cons_succ, List.set_nil, Option.toList, List.nil_append, List.cons_append, List.length_cons, List.length_nil, true_or, or_true, true_and, and_true, nd_fold, Nat.one_mul, ↓m_1, ↓m_2, ↓m_3, ↓m_4, ↓m_9, ↓m_1000, nm_ne, nm_ne', nm_inj, nm_lt, nm_le, nm_gt, nm_ge, nm_xor, nm_add, Nat.add_sub_cancel, not_true_eq_false, not_false_eq_true, na_inj, na_le, na_lt, na_add, na_mul, na_and, na_or, na_xor, na_shl, na_shr, na_sub, i_0, i_1, i_2, i_3, i_4, i_5, i_6, i_7, i_8, i_9, i_10, i_12, i_16, i_20, i_21, i_32, i_40, i_60, ol_1, lt_len, l0, l1, l2, l3, l4, l5]
  refine ⟨fun h => absurd h (by omega), fun _ => ⟨fun h => ?_, fun h => ?_⟩⟩
  rotate_left
  · rw [Decidable.not_not] at h
    first | rw [if_pos h] | skip
    rfl
  first | rw [if_neg h] | skip
  refine kk_E_kindOf_21 _ _ _ _ _ ?_
  simp (disch := omega) only [bk_E_kindOf_21, e_cons, e_il, e_ll, e_al, e_lc0, e_lcs, e_ei, e_el, e_er, e_const, e_istore, e_lstore, e_astore, e_iinc, e_s1_0, e_s1_1, e_s1_2, e_s1_3, e_s1_4, e_s1_5, e_s1_6, e_s1_7, e_s1_8, e_s1_9, e_s1_10, e_s2_0, e_s2_1, e_s2_2, e_s2_3, e_s2_4, e_s2_5, e_s2_6, e_s2_7, e_s2_8, e_s2_9, e_s2_10, e_dln, e_dli, e_dlr, e_dll, e_b, e_bd, e_lb, e_lbd, e_lcmp, e_i2l, e_l2i, e_i2b, e_dupi, e_dupr, e_dup2, e_getf, e_at0, e_ats, e_putI, e_putL, e_putR, e_gets, e_alen, e_iald, e_iast, e_bast, e_aast, e_if1, e_if2, e_goto, e_sw, e_iret, e_zret, e_lret, e_vret, e_obji, List.set_cons_zero, List.set_cons_succ, List.set_nil, Option.toList, List.nil_append, List.cons_append, List.length_cons, List.length_nil, true_or, or_true, true_and, and_true, nd_fold, Nat.one_mul, ↓m_1, ↓m_2, ↓m_3, ↓m_4, ↓m_9, ↓m_1000, nm_ne, nm_ne', nm_inj, nm_lt, nm_le, nm_gt, nm_ge, nm_xor, nm_add, Nat.add_sub_cancel, not_true_eq_false, not_false_eq_true, na_inj, na_le, na_lt, na_add, na_mul, na_and, na_or, na_xor, na_shl, na_shr, na_sub, i_0, i_1, i_2, i_3, i_4, i_5, i_6, i_7, i_8, i_9, i_10, i_12, i_16, i_20, i_21, i_32, i_40, i_60, ol_1, lt_len, l0, l1, l2, l3, l4, l5]
  refine kk_E_kindOf_2 _ _ _ _ _ ?_
  simp (disch := omega) only [bk_E_kindOf_2, e_cons, e_il, e_ll, e_al, e_lc0, e_lcs, e_ei, e_el, e_er, e_const, e_istore, e_lstore, e_astore, e_iinc, e_s1_0, e_s1_1, e_s1_2, e_s1_3, e_s1_4, e_s1_5, e_s1_6, e_s1_7, e_s1_8, e_s1_9, e_s1_10, e_s2_0, e_s2_1, e_s2_2, e_s2_3, e_s2_4, e_s2_5, e_s2_6, e_s2_7, e_s2_8, e_s2_9, e_s2_10, e_dln, e_dli, e_dlr, e_dll, e_b, e_bd, e_lb, e_lbd, e_lcmp, e_i2l, e_l2i, e_i2b, e_dupi, e_dupr, e_dup2, e_getf, e_at0, e_ats, e_putI, e_putL, e_putR, e_gets, e_alen, e_iald, e_iast, e_bast, e_aast, e_if1, e_if2, e_goto, e_sw, e_iret, e_zret, e_lret, e_vret, e_obji, List.set_cons_zero, List.set_cons_succ, List.set_nil, Option.toList, List.nil_append, List.cons_append, List.length_cons, List.length_nil, true_or, or_true, true_and, and_true, nd_fold, Nat.one_mul, ↓m_1, ↓m_2, ↓m_3, ↓m_4, ↓m_9, ↓m_1000, nm_ne, nm_ne', nm_inj, nm_lt, nm_le, nm_gt, nm_ge, nm_xor, nm_add, Nat.add_sub_cancel, not_true_eq_false, not_false_eq_true, na_inj, na_le, na_lt, na_add, na_mul, na_and, na_or, na_xor, na_shl, na_shr, na_sub, i_0, i_1, i_2, i_3, i_4, i_5, i_6, i_7, i_8, i_9, i_10, i_12, i_16, i_20, i_21, i_32, i_40, i_60, ol_1, lt_len, l0, l1, l2, l3, l4, l5]
  refine ⟨fun h => absurd h (by omega), fun _ => ⟨fun h => ?_, fun h => ?_⟩⟩
  rotate_left
  · rw [Decidable.not_not] at h
    first | rw [if_pos h] | skip
    rfl
  first | rw [if_neg h] | skip
  refine kk_E_kindOf_21 _ _ _ _ _ ?_
  simp (disch := omega) only [bk_E_kindOf_21, e_cons, e_il, e_ll, e_al, e_lc0, e_lcs, e_ei, e_el, e_er, e_const, e_istore, e_lstore, e_astore, e_iinc, e_s1_0, e_s1_1, e_s1_2, e_s1_3, e_s1_4, e_s1_5, e_s1_6, e_s1_7, e_s1_8, e_s1_9, e_s1_10, e_s2_0, e_s2_1, e_s2_2, e_s2_3, e_s2_4, e_s2_5, e_s2_6, e_s2_7, e_s2_8, e_s2_9, e_s2_10, e_dln, e_dli, e_dlr, e_dll, e_b, e_bd, e_lb, e_lbd, e_lcmp, e_i2l, e_l2i, e_i2b, e_dupi, e_dupr, e_dup2, e_getf, e_at0, e_ats, e_putI, e_putL, e_putR, e_gets, e_alen, e_iald, e_iast, e_bast, e_aast, e_if1, e_if2, e_goto, e_sw, e_iret, e_zret, e_lret, e_vret, e_obji, List.set_cons_zero, List.set_cons_succ, List.set_nil, Option.toList, List.nil_append, List.cons_append, List.length_cons, List.length_nil, true_or, or_true, true_and, and_true, nd_fold, Nat.one_mul, ↓m_1, ↓m_2, ↓m_3, ↓m_4, ↓m_9, ↓m_1000, nm_ne, nm_ne', nm_inj, nm_lt, nm_le, nm_gt, nm_ge, nm_xor, nm_add, Nat.add_sub_cancel, not_true_eq_false, not_false_eq_true, na_inj, na_le, na_lt, na_add, na_mul, na_and, na_or, na_xor, na_shl, na_shr, na_sub, i_0, i_1, i_2, i_3, i_4, i_5, i_6, i_7, i_8, i_9, i_10, i_12, i_16, i_20, i_21, i_32, i_40, i_60, ol_1, lt_len, l0, l1, l2, l3, l4, l5]
  refine kk_E_kindOf_2 _ _ _ _ _ ?_
  simp (disch := omega) only [bk_E_kindOf_2, e_cons, e_il, e_ll, e_al, e_lc0, e_lcs, e_ei, e_el, e_er, e_const, e_istore, e_lstore, e_astore, e_iinc, e_s1_0, e_s1_1, e_s1_2, e_s1_3, e_s1_4, e_s1_5, e_s1_6, e_s1_7, e_s1_8, e_s1_9, e_s1_10, e_s2_0, e_s2_1, e_s2_2, e_s2_3, e_s2_4, e_s2_5, e_s2_6, e_s2_7, e_s2_8, e_s2_9, e_s2_10, e_dln, e_dli, e_dlr, e_dll, e_b, e_bd, e_lb, e_lbd, e_lcmp, e_i2l, e_l2i, e_i2b, e_dupi, e_dupr, e_dup2, e_getf, e_at0, e_ats, e_putI, e_putL, e_putR, e_gets, e_alen, e_iald, e_iast, e_bast, e_aast, e_if1, e_if2, e_goto, e_sw, e_iret, e_zret, e_lret, e_vret, e_obji, List.set_cons_zero, List.set_cons_succ, List.set_nil, Option.toList, List.nil_append, List.cons_append, List.length_cons, List.length_nil, true_or, or_true, true_and, and_true, nd_fold, Nat.one_mul, ↓m_1, ↓m_2, ↓m_3, ↓m_4, ↓m_9, ↓m_1000, nm_ne, nm_ne', nm_inj, nm_lt, nm_le, nm_gt, nm_ge, nm_xor, nm_add, Nat.add_sub_cancel, not_true_eq_false, not_false_eq_true, na_inj, na_le, na_lt, na_add, na_mul, na_and, na_or, na_xor, na_shl, na_shr, na_sub, i_0, i_1, i_2, i_3, i_4, i_5, i_6, i_7, i_8, i_9, i_10, i_12, i_16, i_20, i_21, i_32, i_40, i_60, ol_1, lt_len, l0, l1, l2, l3, l4, l5]
  refine ⟨fun h => absurd h (by omega), fun _ => ⟨fun h => ?_, fun h => ?_⟩⟩
  rotate_left
  · rw [Decidable.not_not] at h
    first | rw [if_pos h] | skip
    rfl
  first | rw [if_neg h] | skip
  refine kk_E_kindOf_21 _ _ _ _ _ ?_
  simp (disch := omega) only [bk_E_kindOf_21, e_cons, e_il, e_ll, e_al, e_lc0, e_lcs, e_ei, e_el, e_er, e_const, e_istore, e_lstore, e_astore, e_iinc, e_s1_0, e_s1_1, e_s1_2, e_s1_3, e_s1_4, e_s1_5, e_s1_6, e_s1_7, e_s1_8, e_s1_9, e_s1_10, e_s2_0, e_s2_1, e_s2_2, e_s2_3, e_s2_4, e_s2_5, e_s2_6, e_s2_7, e_s2_8, e_s2_9, e_s2_10, e_dln, e_dli, e_dlr, e_dll, e_b, e_bd, e_lb, e_lbd, e_lcmp, e_i2l, e_l2i, e_i2b, e_dupi, e_dupr, e_dup2, e_getf, e_at0, e_ats, e_putI, e_putL, e_putR, e_gets, e_alen, e_iald, e_iast, e_bast, e_aast, e_if1, e_if2, e_goto, e_sw, e_iret, e_zret, e_lret, e_vret, e_obji, List.set_cons_zero, List.set_cons_succ, List.set_nil, Option.toList, List.nil_append, List.cons_append, List.length_cons, List.length_nil, true_or, or_true, true_and, and_true, nd_fold, Nat.one_mul, ↓m_1, ↓m_2, ↓m_3, ↓m_4, ↓m_9, ↓m_1000, nm_ne, nm_ne', nm_inj, nm_lt, nm_le, nm_gt, nm_ge, nm_xor, nm_add, Nat.add_sub_cancel, not_true_eq_false, not_false_eq_true, na_inj, na_le, na_lt, na_add, na_mul, na_and, na_or, na_xor, na_shl, na_shr, na_sub, i_0, i_1, i_2, i_3, i_4, i_5, i_6, i_7, i_8, i_9, i_10, i_12, i_16, i_20, i_21, i_32, i_40, i_60, ol_1, lt_len, l0, l1, l2, l3, l4, l5]
  refine kk_E_kindOf_2 _ _ _ _ _ ?_
  simp (disch := omega) only [bk_E_kindOf_2, e_cons, e_il, e_ll, e_al, e_lc0, e_lcs, e_ei, e_el, e_er, e_const, e_istore, e_lstore, e_astore, e_iinc, e_s1_0, e_s1_1, e_s1_2, e_s1_3, e_s1_4, e_s1_5, e_s1_6, e_s1_7, e_s1_8, e_s1_9, e_s1_10, e_s2_0, e_s2_1, e_s2_2, e_s2_3, e_s2_4, e_s2_5, e_s2_6, e_s2_7, e_s2_8, e_s2_9, e_s2_10, e_dln, e_dli, e_dlr, e_dll, e_b, e_bd, e_lb, e_lbd, e_lcmp, e_i2l, e_l2i, e_i2b, e_dupi, e_dupr, e_dup2, e_getf, e_at0, e_ats, e_putI, e_putL, e_putR, e_gets, e_alen, e_iald, e_iast, e_bast, e_aast, e_if1, e_if2, e_goto, e_sw, e_iret, e_zret, e_lret, e_vret, e_obji, List.set_cons_zero, List.set_cons_succ, List.set_nil, Option.toList, List.nil_append, List.cons_append, List.length_cons, List.length_nil, true_or, or_true, true_and, and_true, nd_fold, Nat.one_mul, ↓m_1, ↓m_2, ↓m_3, ↓m_4, ↓m_9, ↓m_1000, nm_ne, nm_ne', nm_inj, nm_lt, nm_le, nm_gt, nm_ge, nm_xor, nm_add, Nat.add_sub_cancel, not_true_eq_false, not_false_eq_true, na_inj, na_le, na_lt, na_add, na_mul, na_and, na_or, na_xor, na_shl, na_shr, na_sub, i_0, i_1, i_2, i_3, i_4, i_5, i_6, i_7, i_8, i_9, i_10, i_12, i_16, i_20, i_21, i_32, i_40, i_60, ol_1, lt_len, l0, l1, l2, l3, l4, l5]
  refine ⟨fun h => absurd h (by omega), fun _ => ⟨fun h => ?_, fun h => ?_⟩⟩
  rotate_left
  · rw [Decidable.not_not] at h
    first | rw [if_pos h] | skip
    rfl
  first | rw [if_neg h] | skip
  refine kk_E_kindOf_21 _ _ _ _ _ ?_
  simp (disch := omega) only [bk_E_kindOf_21, e_cons, e_il, e_ll, e_al, e_lc0, e_lcs, e_ei, e_el, e_er, e_const, e_istore, e_lstore, e_astore, e_iinc, e_s1_0, e_s1_1, e_s1_2, e_s1_3, e_s1_4, e_s1_5, e_s1_6, e_s1_7, e_s1_8, e_s1_9, e_s1_10, e_s2_0, e_s2_1, e_s2_2, e_s2_3, e_s2_4, e_s2_5, e_s2_6, e_s2_7, e_s2_8, e_s2_9, e_s2_10, e_dln, e_dli, e_dlr, e_dll, e_b, e_bd, e_lb, e_lbd, e_lcmp, e_i2l, e_l2i, e_i2b, e_dupi, e_dupr, e_dup2, e_getf, e_at0, e_ats, e_putI, e_putL, e_putR, e_gets, e_alen, e_iald, e_iast, e_bast, e_aast, e_if1, e_if2, e_goto, e_sw, e_iret, e_zret, e_lret, e_vret, e_obji, List.set_cons_zero, List.set_cons_succ, List.set_nil, Option.toList, List.nil_append, List.cons_append, List.length_cons, List.length_nil, true_or, or_true, true_and, and_true, nd_fold, Nat.one_mul, ↓m_1, ↓m_2, ↓m_3, ↓m_4, ↓m_9, ↓m_1000, nm_ne, nm_ne', nm_inj, nm_lt, nm_le, nm_gt, nm_ge, nm_xor, nm_add, Nat.add_sub_cancel, not_true_eq_false, not_false_eq_true, na_inj, na_le, na_lt, na_add, na_mul, na_and, na_or, na_xor, na_shl, na_shr, na_sub, i_0, i_1, i_2, i_3, i_4, i_5, i_6, i_7, i_8, i_9, i_10, i_12, i_16, i_20, i_21, i_32, i_40, i_60, ol_1, lt_len, l0, l1, l2, l3, l4, l5]
  refine kk_E_kindOf_2 _ _ _ _ _ ?_
  simp (disch := omega) only [bk_E_kindOf_2, e_cons, e_il, e_ll, e_al, e_lc0, e_lcs, e_ei, e_el, e_er, e_const, e_istore, e_lstore, e_astore, e_iinc, e_s1_0, e_s1_1, e_s1_2, e_s1_3, e_s1_4, e_s1_5, e_s1_6, e_s1_7, e_s1_8, e_s1_9, e_s1_10, e_s2_0, e_s2_1, e_s2_2, e_s2_3, e_s2_4, e_s2_5, e_s2_6, e_s2_7, e_s2_8, e_s2_9, e_s2_10, e_dln, e_dli, e_dlr, e_dll, e_b, e_bd, e_lb, e_lbd, e_lcmp, e_i2l, e_l2i, e_i2b, e_dupi, e_dupr, e_dup2, e_getf, e_at0, e_ats, e_putI, e_putL, e_putR, e_gets, e_alen, e_iald, e_iast, e_bast, e_aast, e_if1, e_if2, e_goto, e_sw, e_iret, e_zret, e_lret, e_vret, e_obji, List.set_cons_zero, List.set_cons_succ, List.set_nil, Option.toList, List.nil_append, List.cons_append, List.length_cons, List.length_nil, true_or, or_true, true_and, and_true, nd_fold, Nat.one_mul, ↓m_1, ↓m_2, ↓m_3, ↓m_4, ↓m_9, ↓m_1000, nm_ne, nm_ne', nm_inj, nm_lt, nm_le, nm_gt, nm_ge, nm_xor, nm_add, Nat.add_sub_cancel, not_true_eq_false, not_false_eq_true, na_inj, na_le, na_lt, na_add, na_mul, na_and, na_or, na_xor, na_shl, na_shr, na_sub, i_0, i_1, i_2, i_3, i_4, i_5, i_6, i_7, i_8, i_9, i_10, i_12, i_16, i_20, i_21, i_32, i_40, i_60, ol_1, lt_len, l0, l1, l2, l3, l4, l5]
  refine ⟨fun _ => ?_, fun h => absurd h (by omega)⟩
  refine kk_E_kindOf_27 _ _ _ _ _ ?_
  simp (disch := omega) only [bk_E_kindOf_27, e_cons, e_il, e_ll, e_al, e_lc0, e_lcs, e_ei, e_el, e_er, e_const, e_istore, e_lstore, e_astore, e_iinc, e_s1_0, e_s1_1, e_s1_2, e_s1_3, e_s1_4, e_s1_5, e_s1_6, e_s1_7, e_s1_8, e_s1_9, e_s1_10, e_s2_0, e_s2_1, e_s2_2, e_s2_3, e_s2_4, e_s2_5, e_s2_6, e_s2_7, e_s2_8, e_s2_9, e_s2_10, e_dln, e_dli, e_dlr, e_dll, e_b, e_bd, e_lb, e_lbd, e_lcmp, e_i2l, e_l2i, e_i2b, e_dupi, e_dupr, e_dup2, e_getf, e_at0, e_ats, e_putI, e_putL, e_putR, e_gets, e_alen, e_iald, e_iast, e_bast, e_aast, e_if1, e_if2, e_goto, e_sw, e_iret, e_zret, e_lret, e_vret, e_obji, List.set_cons_zero, List.set_cons_succ, List.set_nil, Option.toList, List.nil_append, List.cons_append, List.length_cons, List.length_nil, true_or, or_true, true_and, and_true, nd_fold, Nat.one_mul, ↓m_1, ↓m_2, ↓m_3, ↓m_4, ↓m_9, ↓m_1000, nm_ne, nm_ne', nm_inj, nm_lt, nm_le, nm_gt, nm_ge, nm_xor, nm_add, Nat.add_sub_cancel, not_true_eq_false, not_false_eq_true, na_inj, na_le, na_lt, na_add, na_mul, na_and, na_or, na_xor, na_shl, na_shr, na_sub, i_0, i_1, i_2, i_3, i_4, i_5, i_6, i_7, i_8, i_9, i_10, i_12, i_16, i_20, i_21, i_32, i_40, i_60, ol_1, lt_len, l0, l1, l2, l3, l4, l5]
  rfl
theorem c_E_skip {s n i : Nat} {A : List Int32} (hs : ∀ nx, ax_get (lay xs rw tx rm rr nx mn ru nw ra dd k0 k1 k2 fc lf td tu tl τ) s = some (21, iv A)) (hn : n ≤ A.length) (hA : A.length ≤ 100) (hi : i ≤ n) : ax_ev mi_E_skipBlanks [.ref 19, .ref s, .int (nI n)] (lay xs rw tx rm rr i mn ru nw ra dd k0 k1 k2 fc lf td tu tl τ) none (lay xs rw tx rm rr (ms_sk (ig A) (n - i) i) mn ru nw ra dd k0 k1 k2 fc lf td tu tl τ) := by
  refine ax_beg 0 rfl rfl ?_
  simp only [ax_ent, List.replicate, List.cons_append, List.nil_append, List.append_nil]
  generalize hF : ms_sk (ig A) (n - i) i = F
  have loop : ∀ (z j : Nat), j + z = n → F = ms_sk (ig A) z j → ax_go mi_E_skipBlanks (fun v' H'' => v' = none ∧ H'' = (lay xs rw tx rm rr F mn ru nw ra dd k0 k1 k2 fc lf td tu tl τ)) 0 (0, 0) [some (.ref 19), some (.ref s), some (.int (nI n))] [] (lay xs rw tx rm rr j mn ru nw ra dd k0 k1 k2 fc lf td tu tl τ) := by
    intro z
    induction z with
    | zero =>
      intro j hj he
      refine kk_E_skipBlanks_0 _ _ _ _ _ ?_
      simp (disch := omega) only [bk_E_skipBlanks_0, e_cons, e_il, e_ll, e_al, e_lc0, e_lcs, e_ei, e_el, e_er, e_const, e_istore, e_lstore, e_astore, e_iinc, e_s1_0, e_s1_1, e_s1_2, e_s1_3, e_s1_4, e_s1_5, e_s1_6, e_s1_7, e_s1_8, e_s1_9, e_s1_10, e_s2_0, e_s2_1, e_s2_2, e_s2_3, e_s2_4, e_s2_5, e_s2_6, e_s2_7, e_s2_8, e_s2_9, e_s2_10, e_dln, e_dli, e_dlr, e_dll, e_b, e_bd, e_lb, e_lbd, e_lcmp, e_i2l, e_l2i, e_i2b, e_dupi, e_dupr, e_dup2, e_getf, e_at0, e_ats, e_putI, e_putL, e_putR, e_gets, e_alen, e_iald, e_iast, e_bast, e_aast, e_if1, e_if2, e_goto, e_sw, e_iret, e_zret, e_lret, e_vret, e_obji, List.set_cons_zero, List.set_cons_succ, List.set_nil, Option.toList, List.nil_append, List.cons_append, List.length_cons, List.length_nil, true_or, or_true, true_and, and_true, nd_fold, Nat.one_mul, ↓m_1, ↓m_2, ↓m_3, ↓m_4, ↓m_9, ↓m_1000, nm_ne, nm_ne', nm_inj, nm_lt, nm_le, nm_gt, nm_ge, nm_xor, nm_add, Nat.add_sub_cancel, not_true_eq_false, not_false_eq_true, na_inj, na_le, na_lt, na_add, na_mul, na_and, na_or, na_xor, na_shl, na_shr, na_sub, i_0, i_1, i_2, i_3, i_4, i_5, i_6, i_7, i_8, i_9, i_10, i_12, i_16, i_20, i_21, i_32, i_40, i_60, ol_19]
      refine ⟨fun _ => ?_, fun hc => absurd hc (by omega)⟩
      refine kk_E_skipBlanks_32 _ _ _ _ _ ?_
      simp (disch := omega) only [bk_E_skipBlanks_32, e_cons, e_il, e_ll, e_al, e_lc0, e_lcs, e_ei, e_el, e_er, e_const, e_istore, e_lstore, e_astore, e_iinc, e_s1_0, e_s1_1, e_s1_2, e_s1_3, e_s1_4, e_s1_5, e_s1_6, e_s1_7, e_s1_8, e_s1_9, e_s1_10, e_s2_0, e_s2_1, e_s2_2, e_s2_3, e_s2_4, e_s2_5, e_s2_6, e_s2_7, e_s2_8, e_s2_9, e_s2_10, e_dln, e_dli, e_dlr, e_dll, e_b, e_bd, e_lb, e_lbd, e_lcmp, e_i2l, e_l2i, e_i2b, e_dupi, e_dupr, e_dup2, e_getf, e_at0, e_ats, e_putI, e_putL, e_putR, e_gets, e_alen, e_iald, e_iast, e_bast, e_aast, e_if1, e_if2, e_goto, e_sw, e_iret, e_zret, e_lret, e_vret, e_obji, List.set_cons_zero, List.set_cons_succ, List.set_nil, Option.toList, List.nil_append, List.cons_append, List.length_cons, List.length_nil, true_or, or_true, true_and, and_true, nd_fold, Nat.one_mul, ↓m_1, ↓m_2, ↓m_3, ↓m_4, ↓m_9, ↓m_1000, nm_ne, nm_ne', nm_inj, nm_lt, nm_le, nm_gt, nm_ge, nm_xor, nm_add, Nat.add_sub_cancel, not_true_eq_false, not_false_eq_true, na_inj, na_le, na_lt, na_add, na_mul, na_and, na_or, na_xor, na_shl, na_shr, na_sub, i_0, i_1, i_2, i_3, i_4, i_5, i_6, i_7, i_8, i_9, i_10, i_12, i_16, i_20, i_21, i_32, i_40, i_60]
      rw [he]
      rfl
    | succ z ih =>
      intro j hj he
      unfold ms_sk at he
      refine kk_E_skipBlanks_0 _ _ _ _ _ ?_
      simp (disch := omega) only [bk_E_skipBlanks_0, e_cons, e_il, e_ll, e_al, e_lc0, e_lcs, e_ei, e_el, e_er, e_const, e_istore, e_lstore, e_astore, e_iinc, e_s1_0, e_s1_1, e_s1_2, e_s1_3, e_s1_4, e_s1_5, e_s1_6, e_s1_7, e_s1_8, e_s1_9, e_s1_10, e_s2_0, e_s2_1, e_s2_2, e_s2_3, e_s2_4, e_s2_5, e_s2_6, e_s2_7, e_s2_8, e_s2_9, e_s2_10, e_dln, e_dli, e_dlr, e_dll, e_b, e_bd, e_lb, e_lbd, e_lcmp, e_i2l, e_l2i, e_i2b, e_dupi, e_dupr, e_dup2, e_getf, e_at0, e_ats, e_putI, e_putL, e_putR, e_gets, e_alen, e_iald, e_iast, e_bast, e_aast, e_if1, e_if2, e_goto, e_sw, e_iret, e_zret, e_lret, e_vret, e_obji, List.set_cons_zero, List.set_cons_succ, List.set_nil, Option.toList, List.nil_append, List.cons_append, List.length_cons, List.length_nil, true_or, or_true, true_and, and_true, nd_fold, Nat.one_mul, ↓m_1, ↓m_2, ↓m_3, ↓m_4, ↓m_9, ↓m_1000, nm_ne, nm_ne', nm_inj, nm_lt, nm_le, nm_gt, nm_ge, nm_xor, nm_add, Nat.add_sub_cancel, not_true_eq_false, not_false_eq_true, na_inj, na_le, na_lt, na_add, na_mul, na_and, na_or, na_xor, na_shl, na_shr, na_sub, i_0, i_1, i_2, i_3, i_4, i_5, i_6, i_7, i_8, i_9, i_10, i_12, i_16, i_20, i_21, i_32, i_40, i_60, ol_19, ax_obj_of (hs _), iv_rd, sl_19]
      refine ⟨fun hc => absurd hc (by omega), fun _ => ⟨fun h => ?_, fun h => ?_⟩⟩
      · rw [if_neg h] at he
        refine kk_E_skipBlanks_32 _ _ _ _ _ ?_
        simp (disch := omega) only [bk_E_skipBlanks_32, e_cons, e_il, e_ll, e_al, e_lc0, e_lcs, e_ei, e_el, e_er, e_const, e_istore, e_lstore, e_astore, e_iinc, e_s1_0, e_s1_1, e_s1_2, e_s1_3, e_s1_4, e_s1_5, e_s1_6, e_s1_7, e_s1_8, e_s1_9, e_s1_10, e_s2_0, e_s2_1, e_s2_2, e_s2_3, e_s2_4, e_s2_5, e_s2_6, e_s2_7, e_s2_8, e_s2_9, e_s2_10, e_dln, e_dli, e_dlr, e_dll, e_b, e_bd, e_lb, e_lbd, e_lcmp, e_i2l, e_l2i, e_i2b, e_dupi, e_dupr, e_dup2, e_getf, e_at0, e_ats, e_putI, e_putL, e_putR, e_gets, e_alen, e_iald, e_iast, e_bast, e_aast, e_if1, e_if2, e_goto, e_sw, e_iret, e_zret, e_lret, e_vret, e_obji, List.set_cons_zero, List.set_cons_succ, List.set_nil, Option.toList, List.nil_append, List.cons_append, List.length_cons, List.length_nil, true_or, or_true, true_and, and_true, nd_fold, Nat.one_mul, ↓m_1, ↓m_2, ↓m_3, ↓m_4, ↓m_9, ↓m_1000, nm_ne, nm_ne', nm_inj, nm_lt, nm_le, nm_gt, nm_ge, nm_xor, nm_add, Nat.add_sub_cancel, not_true_eq_false, not_false_eq_true, na_inj, na_le, na_lt, na_add, na_mul, na_and, na_or, na_xor, na_shl, na_shr, na_sub, i_0, i_1, i_2, i_3, i_4, i_5, i_6, i_7, i_8, i_9, i_10, i_12, i_16, i_20, i_21, i_32, i_40, i_60]
        rw [he]
      · rw [Decidable.not_not] at h
        rw [if_pos h] at he
        exact ih (j + 1) (by omega) he
  exact loop (n - i) i (by omega) hF.symm
theorem c_E_fig {s n i lo hi : Nat} {A : List Int32} (hs : ∀ nx, ax_get (lay xs rw tx rm rr nx mn ru nw ra dd k0 k1 k2 fc lf td tu tl τ) s = some (21, iv A)) (hn : n ≤ A.length) (hA : A.length ≤ 100) (hi0 : i ≤ n) (hl : lo < 10) (hh : hi ≤ 9) : ax_ev mi_E_readFigure [.ref 19, .ref s, .int (nI n), .int (nI lo), .int (nI hi)] (lay xs rw tx rm rr i mn ru nw ra dd k0 k1 k2 fc lf td tu tl τ) (some (.int (oN (ms_fig (ig A) n i lo hi)))) (lay xs rw tx rm rr (if (ms_fig (ig A) n i lo hi).isSome then i + 1 else i) mn ru nw ra dd k0 k1 k2 fc lf td tu tl τ) := by
  refine ax_beg 1 rfl rfl ?_
  simp only [ax_ent, List.replicate, List.cons_append, List.nil_append, List.append_nil]
  have bad : ms_fig (ig A) n i lo hi = none → ax_go mi_E_readFigure (fun v' H'' => v' = some (.int (oN (ms_fig (ig A) n i lo hi))) ∧ H'' = (lay xs rw tx rm rr (if (ms_fig (ig A) n i lo hi).isSome then i + 1 else i) mn ru nw ra dd k0 k1 k2 fc lf td tu tl τ)) 37 (0, 0) [some (.ref 19), some (.ref s), some (.int (nI n)), some (.int (nI lo)), some (.int (nI hi)), none] [] (lay xs rw tx rm rr i mn ru nw ra dd k0 k1 k2 fc lf td tu tl τ) := by
    intro h
    rw [h]
    refine kk_E_readFigure_37 _ _ _ _ _ ?_
    simp (disch := omega) only [bk_E_readFigure_37, e_cons, e_il, e_ll, e_al, e_lc0, e_lcs, e_ei, e_el, e_er, e_const, e_istore, e_lstore, e_astore, e_iinc, e_s1_0, e_s1_1, e_s1_2, e_s1_3, e_s1_4, e_s1_5, e_s1_6, e_s1_7, e_s1_8, e_s1_9, e_s1_10, e_s2_0, e_s2_1, e_s2_2, e_s2_3, e_s2_4, e_s2_5, e_s2_6, e_s2_7, e_s2_8, e_s2_9, e_s2_10, e_dln, e_dli, e_dlr, e_dll, e_b, e_bd, e_lb, e_lbd, e_lcmp, e_i2l, e_l2i, e_i2b, e_dupi, e_dupr, e_dup2, e_getf, e_at0, e_ats, e_putI, e_putL, e_putR, e_gets, e_alen, e_iald, e_iast, e_bast, e_aast, e_if1, e_if2, e_goto, e_sw, e_iret, e_zret, e_lret, e_vret, e_obji, List.set_cons_zero, List.set_cons_succ, List.set_nil, Option.toList, List.nil_append, List.cons_append, List.length_cons, List.length_nil, true_or, or_true, true_and, and_true, nd_fold, Nat.one_mul, ↓m_1, ↓m_2, ↓m_3, ↓m_4, ↓m_9, ↓m_1000, nm_ne, nm_ne', nm_inj, nm_lt, nm_le, nm_gt, nm_ge, nm_xor, nm_add, Nat.add_sub_cancel, not_true_eq_false, not_false_eq_true, na_inj, na_le, na_lt, na_add, na_mul, na_and, na_or, na_xor, na_shl, na_shr, na_sub, i_0, i_1, i_2, i_3, i_4, i_5, i_6, i_7, i_8, i_9, i_10, i_12, i_16, i_20, i_21, i_32, i_40, i_60, ol_19, ax_obj_of (hs _), iv_rd, sl_19, i_48]
    exact ⟨rfl, rfl⟩
  have bad' : ∀ l5, ms_fig (ig A) n i lo hi = none → ax_go mi_E_readFigure (fun v' H'' => v' = some (.int (oN (ms_fig (ig A) n i lo hi))) ∧ H'' = (lay xs rw tx rm rr (if (ms_fig (ig A) n i lo hi).isSome then i + 1 else i) mn ru nw ra dd k0 k1 k2 fc lf td tu tl τ)) 37 (0, 0) [some (.ref 19), some (.ref s), some (.int (nI n)), some (.int (nI lo)), some (.int (nI hi)), l5] [] (lay xs rw tx rm rr i mn ru nw ra dd k0 k1 k2 fc lf td tu tl τ) := by
    intro l5 h
    refine ax_weak (fun k v hk => ?_) (bad h)
    match k, hk with
    | 0, hk => exact hk
    | 1, hk => exact hk
    | 2, hk => exact hk
    | 3, hk => exact hk
    | 4, hk => exact hk
    | 5, hk => simp at hk
    | k + 6, hk => simp at hk
  by_cases hin : i < n
  · refine kk_E_readFigure_0 _ _ _ _ _ ?_
    simp (disch := omega) only [bk_E_readFigure_0, e_cons, e_il, e_ll, e_al, e_lc0, e_lcs, e_ei, e_el, e_er, e_const, e_istore, e_lstore, e_astore, e_iinc, e_s1_0, e_s1_1, e_s1_2, e_s1_3, e_s1_4, e_s1_5, e_s1_6, e_s1_7, e_s1_8, e_s1_9, e_s1_10, e_s2_0, e_s2_1, e_s2_2, e_s2_3, e_s2_4, e_s2_5, e_s2_6, e_s2_7, e_s2_8, e_s2_9, e_s2_10, e_dln, e_dli, e_dlr, e_dll, e_b, e_bd, e_lb, e_lbd, e_lcmp, e_i2l, e_l2i, e_i2b, e_dupi, e_dupr, e_dup2, e_getf, e_at0, e_ats, e_putI, e_putL, e_putR, e_gets, e_alen, e_iald, e_iast, e_bast, e_aast, e_if1, e_if2, e_goto, e_sw, e_iret, e_zret, e_lret, e_vret, e_obji, List.set_cons_zero, List.set_cons_succ, List.set_nil, Option.toList, List.nil_append, List.cons_append, List.length_cons, List.length_nil, true_or, or_true, true_and, and_true, nd_fold, Nat.one_mul, ↓m_1, ↓m_2, ↓m_3, ↓m_4, ↓m_9, ↓m_1000, nm_ne, nm_ne', nm_inj, nm_lt, nm_le, nm_gt, nm_ge, nm_xor, nm_add, Nat.add_sub_cancel, not_true_eq_false, not_false_eq_true, na_inj, na_le, na_lt, na_add, na_mul, na_and, na_or, na_xor, na_shl, na_shr, na_sub, i_0, i_1, i_2, i_3, i_4, i_5, i_6, i_7, i_8, i_9, i_10, i_12, i_16, i_20, i_21, i_32, i_40, i_60, ol_19, ax_obj_of (hs _), iv_rd, sl_19, i_48]
    refine ⟨fun h => absurd h (by omega), fun _ => ?_⟩
    cases hd : dg (ig A i) with
    | none =>
      have hf : ms_fig (ig A) n i lo hi = none := by unfold ms_fig; rw [if_pos hin, hd]
      have hsub := (dg_sub (lo := lo) (hi := hi) hd hh).resolve_right (by omega)
      refine kk_E_readFigure_22 _ _ _ _ _ ?_
      simp (disch := omega) only [bk_E_readFigure_22, e_cons, e_il, e_ll, e_al, e_lc0, e_lcs, e_ei, e_el, e_er, e_const, e_istore, e_lstore, e_astore, e_iinc, e_s1_0, e_s1_1, e_s1_2, e_s1_3, e_s1_4, e_s1_5, e_s1_6, e_s1_7, e_s1_8, e_s1_9, e_s1_10, e_s2_0, e_s2_1, e_s2_2, e_s2_3, e_s2_4, e_s2_5, e_s2_6, e_s2_7, e_s2_8, e_s2_9, e_s2_10, e_dln, e_dli, e_dlr, e_dll, e_b, e_bd, e_lb, e_lbd, e_lcmp, e_i2l, e_l2i, e_i2b, e_dupi, e_dupr, e_dup2, e_getf, e_at0, e_ats, e_putI, e_putL, e_putR, e_gets, e_alen, e_iald, e_iast, e_bast, e_aast, e_if1, e_if2, e_goto, e_sw, e_iret, e_zret, e_lret, e_vret, e_obji, List.set_cons_zero, List.set_cons_succ, List.set_nil, Option.toList, List.nil_append, List.cons_append, List.length_cons, List.length_nil, true_or, or_true, true_and, and_true, nd_fold, Nat.one_mul, ↓m_1, ↓m_2, ↓m_3, ↓m_4, ↓m_9, ↓m_1000, nm_ne, nm_ne', nm_inj, nm_lt, nm_le, nm_gt, nm_ge, nm_xor, nm_add, Nat.add_sub_cancel, not_true_eq_false, not_false_eq_true, na_inj, na_le, na_lt, na_add, na_mul, na_and, na_or, na_xor, na_shl, na_shr, na_sub, i_0, i_1, i_2, i_3, i_4, i_5, i_6, i_7, i_8, i_9, i_10, i_12, i_16, i_20, i_21, i_32, i_40, i_60, ol_19, ax_obj_of (hs _), iv_rd, sl_19, i_48]
      refine ⟨fun _ => bad' _ hf, fun h1 => ⟨fun h2 => absurd ⟨Int32.not_lt.mp h1, h2⟩ hsub, fun _ => bad' _ hf⟩⟩
    | some d =>
      obtain ⟨d9, hx⟩ := dg_some hd
      rw [hx]
      refine kk_E_readFigure_22 _ _ _ _ _ ?_
      simp (disch := omega) only [bk_E_readFigure_22, e_cons, e_il, e_ll, e_al, e_lc0, e_lcs, e_ei, e_el, e_er, e_const, e_istore, e_lstore, e_astore, e_iinc, e_s1_0, e_s1_1, e_s1_2, e_s1_3, e_s1_4, e_s1_5, e_s1_6, e_s1_7, e_s1_8, e_s1_9, e_s1_10, e_s2_0, e_s2_1, e_s2_2, e_s2_3, e_s2_4, e_s2_5, e_s2_6, e_s2_7, e_s2_8, e_s2_9, e_s2_10, e_dln, e_dli, e_dlr, e_dll, e_b, e_bd, e_lb, e_lbd, e_lcmp, e_i2l, e_l2i, e_i2b, e_dupi, e_dupr, e_dup2, e_getf, e_at0, e_ats, e_putI, e_putL, e_putR, e_gets, e_alen, e_iald, e_iast, e_bast, e_aast, e_if1, e_if2, e_goto, e_sw, e_iret, e_zret, e_lret, e_vret, e_obji, List.set_cons_zero, List.set_cons_succ, List.set_nil, Option.toList, List.nil_append, List.cons_append, List.length_cons, List.length_nil, true_or, or_true, true_and, and_true, nd_fold, Nat.one_mul, ↓m_1, ↓m_2, ↓m_3, ↓m_4, ↓m_9, ↓m_1000, nm_ne, nm_ne', nm_inj, nm_lt, nm_le, nm_gt, nm_ge, nm_xor, nm_add, Nat.add_sub_cancel, not_true_eq_false, not_false_eq_true, na_inj, na_le, na_lt, na_add, na_mul, na_and, na_or, na_xor, na_shl, na_shr, na_sub, i_0, i_1, i_2, i_3, i_4, i_5, i_6, i_7, i_8, i_9, i_10, i_12, i_16, i_20, i_21, i_32, i_40, i_60, Nat.add_sub_cancel_left, ol_19, ax_obj_of (hs _), iv_rd, sl_19, i_48]
      by_cases hr : lo ≤ d ∧ d ≤ hi
      · have hf : ms_fig (ig A) n i lo hi = some d := by unfold ms_fig; rw [if_pos hin, hd]; dsimp only; rw [if_pos hr]
        refine ⟨fun h1 => absurd h1 (by omega), fun _ => ⟨fun _ => ?_, fun h1 => absurd h1 (by omega)⟩⟩
        rw [hf]
        refine kk_E_readFigure_40 _ _ _ _ _ ?_
        simp (disch := omega) only [bk_E_readFigure_40, e_cons, e_il, e_ll, e_al, e_lc0, e_lcs, e_ei, e_el, e_er, e_const, e_istore, e_lstore, e_astore, e_iinc, e_s1_0, e_s1_1, e_s1_2, e_s1_3, e_s1_4, e_s1_5, e_s1_6, e_s1_7, e_s1_8, e_s1_9, e_s1_10, e_s2_0, e_s2_1, e_s2_2, e_s2_3, e_s2_4, e_s2_5, e_s2_6, e_s2_7, e_s2_8, e_s2_9, e_s2_10, e_dln, e_dli, e_dlr, e_dll, e_b, e_bd, e_lb, e_lbd, e_lcmp, e_i2l, e_l2i, e_i2b, e_dupi, e_dupr, e_dup2, e_getf, e_at0, e_ats, e_putI, e_putL, e_putR, e_gets, e_alen, e_iald, e_iast, e_bast, e_aast, e_if1, e_if2, e_goto, e_sw, e_iret, e_zret, e_lret, e_vret, e_obji, List.set_cons_zero, List.set_cons_succ, List.set_nil, Option.toList, List.nil_append, List.cons_append, List.length_cons, List.length_nil, true_or, or_true, true_and, and_true, nd_fold, Nat.one_mul, ↓m_1, ↓m_2, ↓m_3, ↓m_4, ↓m_9, ↓m_1000, nm_ne, nm_ne', nm_inj, nm_lt, nm_le, nm_gt, nm_ge, nm_xor, nm_add, Nat.add_sub_cancel, not_true_eq_false, not_false_eq_true, na_inj, na_le, na_lt, na_add, na_mul, na_and, na_or, na_xor, na_shl, na_shr, na_sub, i_0, i_1, i_2, i_3, i_4, i_5, i_6, i_7, i_8, i_9, i_10, i_12, i_16, i_20, i_21, i_32, i_40, i_60, ol_19, ax_obj_of (hs _), iv_rd, sl_19, i_48]
        exact ⟨rfl, rfl⟩
      · have hf : ms_fig (ig A) n i lo hi = none := by unfold ms_fig; rw [if_pos hin, hd]; dsimp only; rw [if_neg hr]
        exact ⟨fun _ => bad' _ hf, fun _ => ⟨fun _ => absurd (show lo ≤ d ∧ d ≤ hi by omega) hr, fun _ => bad' _ hf⟩⟩
  · have hf : ms_fig (ig A) n i lo hi = none := by unfold ms_fig; rw [if_neg hin]
    refine kk_E_readFigure_0 _ _ _ _ _ ?_
    simp (disch := omega) only [bk_E_readFigure_0, e_cons, e_il, e_ll, e_al, e_lc0, e_lcs, e_ei, e_el, e_er, e_const, e_istore, e_lstore, e_astore, e_iinc, e_s1_0, e_s1_1, e_s1_2, e_s1_3, e_s1_4, e_s1_5, e_s1_6, e_s1_7, e_s1_8, e_s1_9, e_s1_10, e_s2_0, e_s2_1, e_s2_2, e_s2_3, e_s2_4, e_s2_5, e_s2_6, e_s2_7, e_s2_8, e_s2_9, e_s2_10, e_dln, e_dli, e_dlr, e_dll, e_b, e_bd, e_lb, e_lbd, e_lcmp, e_i2l, e_l2i, e_i2b, e_dupi, e_dupr, e_dup2, e_getf, e_at0, e_ats, e_putI, e_putL, e_putR, e_gets, e_alen, e_iald, e_iast, e_bast, e_aast, e_if1, e_if2, e_goto, e_sw, e_iret, e_zret, e_lret, e_vret, e_obji, List.set_cons_zero, List.set_cons_succ, List.set_nil, Option.toList, List.nil_append, List.cons_append, List.length_cons, List.length_nil, true_or, or_true, true_and, and_true, nd_fold, Nat.one_mul, ↓m_1, ↓m_2, ↓m_3, ↓m_4, ↓m_9, ↓m_1000, nm_ne, nm_ne', nm_inj, nm_lt, nm_le, nm_gt, nm_ge, nm_xor, nm_add, Nat.add_sub_cancel, not_true_eq_false, not_false_eq_true, na_inj, na_le, na_lt, na_add, na_mul, na_and, na_or, na_xor, na_shl, na_shr, na_sub, i_0, i_1, i_2, i_3, i_4, i_5, i_6, i_7, i_8, i_9, i_10, i_12, i_16, i_20, i_21, i_32, i_40, i_60, ol_19, ax_obj_of (hs _), iv_rd, sl_19, i_48]
    refine ⟨fun _ => ?_, fun h => absurd h (by omega)⟩
    refine kk_E_readFigure_20 _ _ _ _ _ ?_
    simp (disch := omega) only [bk_E_readFigure_20, e_cons, e_il, e_ll, e_al, e_lc0, e_lcs, e_ei, e_el, e_er, e_const, e_istore, e_lstore, e_astore, e_iinc, e_s1_0, e_s1_1, e_s1_2, e_s1_3, e_s1_4, e_s1_5, e_s1_6, e_s1_7, e_s1_8, e_s1_9, e_s1_10, e_s2_0, e_s2_1, e_s2_2, e_s2_3, e_s2_4, e_s2_5, e_s2_6, e_s2_7, e_s2_8, e_s2_9, e_s2_10, e_dln, e_dli, e_dlr, e_dll, e_b, e_bd, e_lb, e_lbd, e_lcmp, e_i2l, e_l2i, e_i2b, e_dupi, e_dupr, e_dup2, e_getf, e_at0, e_ats, e_putI, e_putL, e_putR, e_gets, e_alen, e_iald, e_iast, e_bast, e_aast, e_if1, e_if2, e_goto, e_sw, e_iret, e_zret, e_lret, e_vret, e_obji, List.set_cons_zero, List.set_cons_succ, List.set_nil, Option.toList, List.nil_append, List.cons_append, List.length_cons, List.length_nil, true_or, or_true, true_and, and_true, nd_fold, Nat.one_mul, ↓m_1, ↓m_2, ↓m_3, ↓m_4, ↓m_9, ↓m_1000, nm_ne, nm_ne', nm_inj, nm_lt, nm_le, nm_gt, nm_ge, nm_xor, nm_add, Nat.add_sub_cancel, not_true_eq_false, not_false_eq_true, na_inj, na_le, na_lt, na_add, na_mul, na_and, na_or, na_xor, na_shl, na_shr, na_sub, i_0, i_1, i_2, i_3, i_4, i_5, i_6, i_7, i_8, i_9, i_10, i_12, i_16, i_20, i_21, i_32, i_40, i_60, ol_19, ax_obj_of (hs _), iv_rd, sl_19, i_48]
    refine kk_E_readFigure_22 _ _ _ _ _ ?_
    simp (disch := omega) only [bk_E_readFigure_22, e_cons, e_il, e_ll, e_al, e_lc0, e_lcs, e_ei, e_el, e_er, e_const, e_istore, e_lstore, e_astore, e_iinc, e_s1_0, e_s1_1, e_s1_2, e_s1_3, e_s1_4, e_s1_5, e_s1_6, e_s1_7, e_s1_8, e_s1_9, e_s1_10, e_s2_0, e_s2_1, e_s2_2, e_s2_3, e_s2_4, e_s2_5, e_s2_6, e_s2_7, e_s2_8, e_s2_9, e_s2_10, e_dln, e_dli, e_dlr, e_dll, e_b, e_bd, e_lb, e_lbd, e_lcmp, e_i2l, e_l2i, e_i2b, e_dupi, e_dupr, e_dup2, e_getf, e_at0, e_ats, e_putI, e_putL, e_putR, e_gets, e_alen, e_iald, e_iast, e_bast, e_aast, e_if1, e_if2, e_goto, e_sw, e_iret, e_zret, e_lret, e_vret, e_obji, List.set_cons_zero, List.set_cons_succ, List.set_nil, Option.toList, List.nil_append, List.cons_append, List.length_cons, List.length_nil, true_or, or_true, true_and, and_true, nd_fold, Nat.one_mul, ↓m_1, ↓m_2, ↓m_3, ↓m_4, ↓m_9, ↓m_1000, nm_ne, nm_ne', nm_inj, nm_lt, nm_le, nm_gt, nm_ge, nm_xor, nm_add, Nat.add_sub_cancel, not_true_eq_false, not_false_eq_true, na_inj, na_le, na_lt, na_add, na_mul, na_and, na_or, na_xor, na_shl, na_shr, na_sub, i_0, i_1, i_2, i_3, i_4, i_5, i_6, i_7, i_8, i_9, i_10, i_12, i_16, i_20, i_21, i_32, i_40, i_60, ol_19, ax_obj_of (hs _), iv_rd, sl_19, i_48]
    exact ⟨fun _ => bad' _ hf, fun h => h.elim⟩
end ER
