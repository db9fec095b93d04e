/-! long numbers -/
def nL (n : Nat) : Int64 := Int64.ofNat n
theorem nL_toInt {n : Nat} (h : n < 2 ^ 63) : (nL n).toInt = (n : Int) := Int64.toInt_ofNat_of_lt h
theorem la_add (a b : Nat) : nL a + nL b = nL (a + b) := by
  apply Int64.toBitVec_inj.1
  show BitVec.ofNat 64 a + BitVec.ofNat 64 b = BitVec.ofNat 64 (a + b)
  rw [BitVec.ofNat_add]
theorem la_mul (a b : Nat) : nL a * nL b = nL (a * b) := by
  apply Int64.toBitVec_inj.1
  show BitVec.ofNat 64 a * BitVec.ofNat 64 b = BitVec.ofNat 64 (a * b)
  rw [BitVec.ofNat_mul]
theorem la_sub {a b : Nat} (h : b ≤ a) : nL a - nL b = nL (a - b) := by
  have h1 : nL a = nL (a - b) + nL b := by rw [la_add, Nat.sub_add_cancel h]
  rw [h1, Int64.add_sub_cancel]
theorem la_inj {a b : Nat} (ha : a < 2 ^ 63) (hb : b < 2 ^ 63) : (nL a = nL b) = (a = b) := by
  refine propext ⟨fun h => ?_, fun h => by rw [h]⟩
  have := congrArg Int64.toInt h
  rw [nL_toInt ha, nL_toInt hb] at this
  omega
theorem la_div {a b : Nat} (ha : a < 2 ^ 63) (hb : b < 2 ^ 63) : nL a / nL b = nL (a / b) := by
  apply Int64.toInt_inj.mp
  have h2 : a / b ≤ a := Nat.div_le_self _ _
  rw [Int64.toInt_div, nL_toInt ha, nL_toInt hb, nL_toInt (by omega)]
  have hq : ((a : Int).tdiv b) = ((a / b : Nat) : Int) := (Int.ofNat_tdiv a b).symm
  rw [hq]
  generalize a / b = q at *
  rw [Int.bmod_eq_of_le] <;> omega
theorem la_rem {a b : Nat} (ha : a < 2 ^ 63) (hb : b < 2 ^ 63) : nL a - nL a / nL b * nL b = nL (a % b) := by
  have h1 := Nat.div_add_mod a b
  have h2 : a / b * b ≤ a := Nat.div_mul_le_self a b
  rw [la_div ha hb, la_mul, la_sub h2]
  congr 1
  rw [Nat.mul_comm] at h1
  omega
theorem il_n {a : Nat} (h : a < 2 ^ 31) : (nI a).toInt64 = nL a := by
  apply Int64.toInt_inj.mp
  rw [Int32.toInt_toInt64, nI_toInt h, nL_toInt (by omega)]
theorem l_0 : (0 : Int64) = nL 0 := by decide +kernel
theorem l_1 : (1 : Int64) = nL 1 := by decide +kernel
theorem l_8 : (8 : Int64) = nL 8 := by decide +kernel
theorem l_12 : (12 : Int64) = nL 12 := by decide +kernel
theorem l_48271 : (48271 : Int64) = nL 48271 := by decide +kernel
theorem l_P : (2147483647 : Int64) = nL 2147483647 := by decide +kernel
theorem lc_eq0 {u w : Int64} : (lg_cmp u w = nI 0) = (u = w) := by
  unfold lg_cmp
  split
  · next h =>
    refine propext ⟨fun g => absurd g (by decide), fun g => ?_⟩
    subst g
    exact absurd h (by have : ¬ u < u := fun k => by rw [Int64.lt_iff_toInt_lt] at k; omega
                       exact this)
  · split
    · next g => exact propext ⟨fun _ => g, fun _ => rfl⟩
    · next g => exact propext ⟨fun k => absurd k (by decide), fun k => absurd k g⟩
theorem lc_le0 {u w : Int64} : (lg_cmp u w ≤ nI 0) = (u.toInt ≤ w.toInt) := by
  have h := lc_gt (u := u) (w := w)
  refine propext ⟨fun g => ?_, fun g => ?_⟩
  · refine Int.not_lt.mp fun k => ?_
    rw [← h] at k
    exact absurd k (Int32.not_lt.mpr g)
  · refine Int32.not_lt.mp fun k => ?_
    have k' : 0 < lg_cmp u w := k
    rw [h] at k'
    omega
/-! the greatest common divisor -/
def gcf : Nat → Nat → Nat → Nat
  | 0, a, _ => a
  | z + 1, a, b => if b = 0 then a else gcf z b (a % b)
theorem gcf_eq : ∀ (z f a b : Nat), b < 2 ^ z → 2 * z + 1 ≤ f → gcf f a b = Nat.gcd a b
  | 0, 0, a, b, _, hf => absurd hf (by omega)
  | 0, f + 1, a, b, hb, _ => by
    have h0 : b = 0 := by have : b < 1 := hb; omega
    subst h0
    unfold gcf
    rw [if_pos rfl, Nat.gcd_zero_right]
  | z + 1, 0, a, b, _, hf => absurd hf (by omega)
  | z + 1, 1, a, b, _, hf => absurd hf (by omega)
  | z + 1, f + 2, a, b, hb, hf => by
    unfold gcf
    by_cases h0 : b = 0
    · subst h0
      rw [if_pos rfl, Nat.gcd_zero_right]
    · rw [if_neg h0]
      unfold gcf
      have hc := Nat.mod_lt a (show b > 0 by omega)
      by_cases h1 : a % b = 0
      · rw [if_pos h1, Nat.gcd_comm, Nat.gcd_rec, h1, Nat.gcd_zero_left]
      · rw [if_neg h1]
        have hr := Nat.mod_lt b (show a % b > 0 by omega)
        have hr2 : b % (a % b) ≤ b - a % b := by
          rw [Nat.mod_eq_sub_mod (by omega)]
          exact Nat.mod_le _ _
        have hp : 2 ^ (z + 1) = 2 ^ z * 2 := Nat.pow_succ 2 z
        rw [gcf_eq z f (a % b) (b % (a % b)) (by omega) (by omega)]
        conv => rhs; rw [Nat.gcd_comm, Nat.gcd_rec]
        conv => rhs; rw [Nat.gcd_rec]
        rw [Nat.gcd_comm]
theorem c_C_gcd {a b : Nat} {H : ax_H} (ha : a < 2 ^ 40) (hb : b < 2 ^ 40) : ax_ev mi_C_commonDivisor [.long (nL a), .long (nL b)] H (some (.long (nL (Nat.gcd a b)))) H := by
  refine ax_beg 7 rfl rfl ?_
  simp only [ax_ent, List.replicate, List.cons_append, List.nil_append, List.append_nil]
  have hG := gcf_eq 40 200 a b hb (by omega)
  generalize Nat.gcd a b = G at *
  have loop : ∀ (z j x y : Nat) (l9 : Option Value), j + z = 200 → x < 2 ^ 40 → y < 2 ^ 40 → gcf z x y = G → ax_go mi_C_commonDivisor (fun v' H'' => v' = some (.long (nL G)) ∧ H'' = H) 9 (0, 0) [some (.long (nL a)), none, some (.long (nL b)), none, some (.long (nL x)), none, some (.long (nL y)), none, some (.int (nI j)), l9, none] [] H := by
    intro z
    induction z with
    | zero =>
      intro j x y l9 e1 e2 e3 e4
      have e5 : x = G := e4
      have e' : j = 200 := by omega
      subst e'; subst e5
      refine kk_C_commonDivisor_9 _ _ _ _ _ ?_
      simp (disch := omega) only [bk_C_commonDivisor_9, e_cons, e_il, e_ll, e_al, e_lc0, e_lcs, e_ei, e_el, e_er, e_const, e_istore, e_lstore, e_astore, e_iinc, e_s1_0, e_s1_1, e_s1_2, e_s1_3, e_s1_4, e_s1_5, e_s1_6, e_s1_7, e_s1_8, e_s1_9, e_s1_10, e_s2_0, e_s2_1, e_s2_2, e_s2_3, e_s2_4, e_s2_5, e_s2_6, e_s2_7, e_s2_8, e_s2_9, e_s2_10, e_dln, e_dli, e_dlr, e_dll, e_b, e_bd, e_lb, e_lbd, e_lcmp, e_i2l, e_l2i, e_i2b, e_dupi, e_dupr, e_dup2, e_getf, e_at0, e_ats, e_putI, e_putL, e_putR, e_gets, e_alen, e_iald, e_iast, e_bast, e_aast, e_if1, e_if2, e_goto, e_sw, e_iret, e_zret, e_lret, e_vret, e_obji, List.set_cons_zero, List.set_cons_succ, List.set_nil, Option.toList, List.nil_append, List.cons_append, List.length_cons, List.length_nil, true_or, or_true, true_and, and_true, nd_fold, Nat.one_mul, ↓m_1, ↓m_2, ↓m_3, ↓m_4, ↓m_9, ↓m_1000, nm_ne, nm_ne', nm_inj, nm_lt, nm_le, nm_gt, nm_ge, nm_xor, nm_add, Nat.add_sub_cancel, not_true_eq_false, not_false_eq_true, na_inj, na_le, na_lt, na_add, na_mul, na_and, na_or, na_xor, na_shl, na_shr, na_sub, i_0, i_1, i_2, i_3, i_4, i_5, i_6, i_7, i_8, i_9, i_10, i_12, i_16, i_20, i_21, i_32, i_40, i_60, show (200 : Int32) = nI 200 by decide +kernel]
      refine ⟨fun _ => ?_, fun g => (by first | exact g.elim | exact absurd rfl g | exact absurd trivial g | exact absurd (Nat.le_refl _) g | (exfalso; omega) | exact absurd g (by decide) | exact absurd (show ¬ nI 1 = nI 0 by decide) g | exact absurd (by decide) g)⟩
      refine kk_C_commonDivisor_45 _ _ _ _ _ ?_
      simp (disch := omega) only [bk_C_commonDivisor_45, e_cons, e_il, e_ll, e_al, e_lc0, e_lcs, e_ei, e_el, e_er, e_const, e_istore, e_lstore, e_astore, e_iinc, e_s1_0, e_s1_1, e_s1_2, e_s1_3, e_s1_4, e_s1_5, e_s1_6, e_s1_7, e_s1_8, e_s1_9, e_s1_10, e_s2_0, e_s2_1, e_s2_2, e_s2_3, e_s2_4, e_s2_5, e_s2_6, e_s2_7, e_s2_8, e_s2_9, e_s2_10, e_dln, e_dli, e_dlr, e_dll, e_b, e_bd, e_lb, e_lbd, e_lcmp, e_i2l, e_l2i, e_i2b, e_dupi, e_dupr, e_dup2, e_getf, e_at0, e_ats, e_putI, e_putL, e_putR, e_gets, e_alen, e_iald, e_iast, e_bast, e_aast, e_if1, e_if2, e_goto, e_sw, e_iret, e_zret, e_lret, e_vret, e_obji, List.set_cons_zero, List.set_cons_succ, List.set_nil, Option.toList, List.nil_append, List.cons_append, List.length_cons, List.length_nil, true_or, or_true, true_and, and_true, nd_fold, Nat.one_mul, ↓m_1, ↓m_2, ↓m_3, ↓m_4, ↓m_9, ↓m_1000, nm_ne, nm_ne', nm_inj, nm_lt, nm_le, nm_gt, nm_ge, nm_xor, nm_add, Nat.add_sub_cancel, not_true_eq_false, not_false_eq_true, na_inj, na_le, na_lt, na_add, na_mul, na_and, na_or, na_xor, na_shl, na_shr, na_sub, i_0, i_1, i_2, i_3, i_4, i_5, i_6, i_7, i_8, i_9, i_10, i_12, i_16, i_20, i_21, i_32, i_40, i_60]
      all_goals first | exact ⟨rfl, rfl⟩ | exact rfl | exact trivial
    | succ z ih =>
      intro j x y l9 e1 e2 e3 e4
      unfold gcf at e4
      refine kk_C_commonDivisor_9 _ _ _ _ _ ?_
      simp (disch := omega) only [bk_C_commonDivisor_9, e_cons, e_il, e_ll, e_al, e_lc0, e_lcs, e_ei, e_el, e_er, e_const, e_istore, e_lstore, e_astore, e_iinc, e_s1_0, e_s1_1, e_s1_2, e_s1_3, e_s1_4, e_s1_5, e_s1_6, e_s1_7, e_s1_8, e_s1_9, e_s1_10, e_s2_0, e_s2_1, e_s2_2, e_s2_3, e_s2_4, e_s2_5, e_s2_6, e_s2_7, e_s2_8, e_s2_9, e_s2_10, e_dln, e_dli, e_dlr, e_dll, e_b, e_bd, e_lb, e_lbd, e_lcmp, e_i2l, e_l2i, e_i2b, e_dupi, e_dupr, e_dup2, e_getf, e_at0, e_ats, e_putI, e_putL, e_putR, e_gets, e_alen, e_iald, e_iast, e_bast, e_aast, e_if1, e_if2, e_goto, e_sw, e_iret, e_zret, e_lret, e_vret, e_obji, List.set_cons_zero, List.set_cons_succ, List.set_nil, Option.toList, List.nil_append, List.cons_append, List.length_cons, List.length_nil, true_or, or_true, true_and, and_true, nd_fold, Nat.one_mul, ↓m_1, ↓m_2, ↓m_3, ↓m_4, ↓m_9, ↓m_1000, nm_ne, nm_ne', nm_inj, nm_lt, nm_le, nm_gt, nm_ge, nm_xor, nm_add, Nat.add_sub_cancel, not_true_eq_false, not_false_eq_true, na_inj, na_le, na_lt, na_add, na_mul, na_and, na_or, na_xor, na_shl, na_shr, na_sub, i_0, i_1, i_2, i_3, i_4, i_5, i_6, i_7, i_8, i_9, i_10, i_12, i_16, i_20, i_21, i_32, i_40, i_60, show (200 : Int32) = nI 200 by decide +kernel, l_0, lc_eq0, la_inj, ↓la_rem]
      refine ⟨fun g => (by first | exact g.elim | exact absurd rfl g | exact absurd trivial g | exact absurd (Nat.le_refl _) g | (exfalso; omega) | exact absurd g (by decide) | exact absurd (show ¬ nI 1 = nI 0 by decide) g | exact absurd (by decide) g), fun _ => ?_⟩
      refine ⟨fun g => ?_, fun g => ?_⟩
      · rw [if_pos g] at e4
        rw [e4]
        refine kk_C_commonDivisor_45 _ _ _ _ _ ?_
        simp (disch := omega) only [bk_C_commonDivisor_45, e_cons, e_il, e_ll, e_al, e_lc0, e_lcs, e_ei, e_el, e_er, e_const, e_istore, e_lstore, e_astore, e_iinc, e_s1_0, e_s1_1, e_s1_2, e_s1_3, e_s1_4, e_s1_5, e_s1_6, e_s1_7, e_s1_8, e_s1_9, e_s1_10, e_s2_0, e_s2_1, e_s2_2, e_s2_3, e_s2_4, e_s2_5, e_s2_6, e_s2_7, e_s2_8, e_s2_9, e_s2_10, e_dln, e_dli, e_dlr, e_dll, e_b, e_bd, e_lb, e_lbd, e_lcmp, e_i2l, e_l2i, e_i2b, e_dupi, e_dupr, e_dup2, e_getf, e_at0, e_ats, e_putI, e_putL, e_putR, e_gets, e_alen, e_iald, e_iast, e_bast, e_aast, e_if1, e_if2, e_goto, e_sw, e_iret, e_zret, e_lret, e_vret, e_obji, List.set_cons_zero, List.set_cons_succ, List.set_nil, Option.toList, List.nil_append, List.cons_append, List.length_cons, List.length_nil, true_or, or_true, true_and, and_true, nd_fold, Nat.one_mul, ↓m_1, ↓m_2, ↓m_3, ↓m_4, ↓m_9, ↓m_1000, nm_ne, nm_ne', nm_inj, nm_lt, nm_le, nm_gt, nm_ge, nm_xor, nm_add, Nat.add_sub_cancel, not_true_eq_false, not_false_eq_true, na_inj, na_le, na_lt, na_add, na_mul, na_and, na_or, na_xor, na_shl, na_shr, na_sub, i_0, i_1, i_2, i_3, i_4, i_5, i_6, i_7, i_8, i_9, i_10, i_12, i_16, i_20, i_21, i_32, i_40, i_60]
        all_goals first | exact ⟨rfl, rfl⟩ | exact rfl | exact trivial
      · rw [if_neg g] at e4
        have hm := Nat.mod_lt x (show y > 0 by omega)
        refine ⟨g, ?_⟩
        exact ih (j + 1) y (x % y) _ (by omega) e3 (by omega) e4
  refine kk_C_commonDivisor_0 _ _ _ _ _ ?_
  simp (disch := omega) only [bk_C_commonDivisor_0, e_cons, e_il, e_ll, e_al, e_lc0, e_lcs, e_ei, e_el, e_er, e_const, e_istore, e_lstore, e_astore, e_iinc, e_s1_0, e_s1_1, e_s1_2, e_s1_3, e_s1_4, e_s1_5, e_s1_6, e_s1_7, e_s1_8, e_s1_9, e_s1_10, e_s2_0, e_s2_1, e_s2_2, e_s2_3, e_s2_4, e_s2_5, e_s2_6, e_s2_7, e_s2_8, e_s2_9, e_s2_10, e_dln, e_dli, e_dlr, e_dll, e_b, e_bd, e_lb, e_lbd, e_lcmp, e_i2l, e_l2i, e_i2b, e_dupi, e_dupr, e_dup2, e_getf, e_at0, e_ats, e_putI, e_putL, e_putR, e_gets, e_alen, e_iald, e_iast, e_bast, e_aast, e_if1, e_if2, e_goto, e_sw, e_iret, e_zret, e_lret, e_vret, e_obji, List.set_cons_zero, List.set_cons_succ, List.set_nil, Option.toList, List.nil_append, List.cons_append, List.length_cons, List.length_nil, true_or, or_true, true_and, and_true, nd_fold, Nat.one_mul, ↓m_1, ↓m_2, ↓m_3, ↓m_4, ↓m_9, ↓m_1000, nm_ne, nm_ne', nm_inj, nm_lt, nm_le, nm_gt, nm_ge, nm_xor, nm_add, Nat.add_sub_cancel, not_true_eq_false, not_false_eq_true, na_inj, na_le, na_lt, na_add, na_mul, na_and, na_or, na_xor, na_shl, na_shr, na_sub, i_0, i_1, i_2, i_3, i_4, i_5, i_6, i_7, i_8, i_9, i_10, i_12, i_16, i_20, i_21, i_32, i_40, i_60]
  exact loop 200 0 a b none (by omega) ha hb hG
section FR
variable {P : ax_P} {RS : List Int32} {RW : List Int32} {TS : List Int32} {TX : List Int32} {mc : Nat} {K : List Nat} {PC : List Nat} {CU : List Nat} {NW : List Nat} {AS : List Nat} {dp : Nat} {BF : List Nat} {KP : List Nat} {KT : List Nat} {ak : Int32} {up : Int64} {lw : Int64} {fi : Int32} {FS : List Int32} {he : Nat} {rch : Nat} {rmn : Nat} {RM : List Nat} {RO : List Nat} {BE : List Nat} {WO : List Nat}
theorem c_R_fraction {a b : Nat} (ha : a < 2 ^ 40) (hb : b < 2 ^ 40) (hb0 : 0 < b) : ax_ev mi_R_fraction [.ref 48, .long (nL a), .long (nL b)] (mdl P RS RW TS TX mc K PC CU NW AS dp BF KP KT ak up lw fi FS he rch rmn RM RO BE WO) (some (.int (nI 1))) (mdl P RS RW TS TX mc K PC CU NW AS dp BF KP KT ak (nL (a / Nat.gcd a b)) (nL (b / Nat.gcd a b)) fi FS he rch rmn RM RO BE WO) := by
  refine ax_beg 6 rfl rfl ?_
  simp only [ax_ent, List.replicate, List.cons_append, List.nil_append, List.append_nil]
  have hg0 : 0 < Nat.gcd a b := Nat.gcd_pos_of_pos_right a hb0
  have hgl : Nat.gcd a b ≤ b := Nat.le_of_dvd hb0 (Nat.gcd_dvd_right a b)
  generalize hG : Nat.gcd a b = G at *
  have loop : ∀ (y' y x : Nat) (l9 : Option Value), y ≤ y' → x < 2 ^ 40 → y < 2 ^ 40 → Nat.gcd x y = G → ax_go mi_R_fraction (fun v' H'' => v' = some (.int (nI 1)) ∧ H'' = (mdl P RS RW TS TX mc K PC CU NW AS dp BF KP KT ak (nL (a / G)) (nL (b / G)) fi FS he rch rmn RM RO BE WO)) 6 (0, 0) [some (.ref 48), some (.long (nL a)), none, some (.long (nL b)), none, some (.long (nL x)), none, some (.long (nL y)), none, l9, none] [] (mdl P RS RW TS TX mc K PC CU NW AS dp BF KP KT ak up lw fi FS he rch rmn RM RO BE WO) := by
    intro y'
    have fin : ∀ (x y : Nat) (l9 : Option Value), x = G → ax_go mi_R_fraction (fun v' H'' => v' = some (.int (nI 1)) ∧ H'' = (mdl P RS RW TS TX mc K PC CU NW AS dp BF KP KT ak (nL (a / G)) (nL (b / G)) fi FS he rch rmn RM RO BE WO)) 31 (0, 0) [some (.ref 48), some (.long (nL a)), none, some (.long (nL b)), none, some (.long (nL x)), none, some (.long (nL y)), none, l9, none] [] (mdl P RS RW TS TX mc K PC CU NW AS dp BF KP KT ak up lw fi FS he rch rmn RM RO BE WO) := by
      intro x y l9 e
      subst e
      have hn : ¬ x = 0 := by omega
      refine kk_R_fraction_31 _ _ _ _ _ ?_
      simp (disch := omega) only [bk_R_fraction_31, e_cons, e_il, e_ll, e_al, e_lc0, e_lcs, e_ei, e_el, e_er, e_const, e_istore, e_lstore, e_astore, e_iinc, e_s1_0, e_s1_1, e_s1_2, e_s1_3, e_s1_4, e_s1_5, e_s1_6, e_s1_7, e_s1_8, e_s1_9, e_s1_10, e_s2_0, e_s2_1, e_s2_2, e_s2_3, e_s2_4, e_s2_5, e_s2_6, e_s2_7, e_s2_8, e_s2_9, e_s2_10, e_dln, e_dli, e_dlr, e_dll, e_b, e_bd, e_lb, e_lbd, e_lcmp, e_i2l, e_l2i, e_i2b, e_dupi, e_dupr, e_dup2, e_getf, e_at0, e_ats, e_putI, e_putL, e_putR, e_gets, e_alen, e_iald, e_iast, e_bast, e_aast, e_if1, e_if2, e_goto, e_sw, e_iret, e_zret, e_lret, e_vret, e_obji, List.set_cons_zero, List.set_cons_succ, List.set_nil, Option.toList, List.nil_append, List.cons_append, List.length_cons, List.length_nil, true_or, or_true, true_and, and_true, nd_fold, Nat.one_mul, ↓m_1, ↓m_2, ↓m_3, ↓m_4, ↓m_9, ↓m_1000, nm_ne, nm_ne', nm_inj, nm_lt, nm_le, nm_gt, nm_ge, nm_xor, nm_add, Nat.add_sub_cancel, not_true_eq_false, not_false_eq_true, na_inj, na_le, na_lt, na_add, na_mul, na_and, na_or, na_xor, na_shl, na_shr, na_sub, i_0, i_1, i_2, i_3, i_4, i_5, i_6, i_7, i_8, i_9, i_10, i_12, i_16, i_20, i_21, i_32, i_40, i_60, om_48, sm_48, l_0, la_inj, ↓la_div, hn]
      all_goals first | exact ⟨rfl, rfl⟩ | exact rfl | exact trivial
    induction y' with
    | zero =>
      intro y x l9 e1 e2 e3 e4
      have e5 : y = 0 := by omega
      subst e5
      rw [Nat.gcd_zero_right] at e4
      refine kk_R_fraction_6 _ _ _ _ _ ?_
      simp (disch := omega) only [bk_R_fraction_6, e_cons, e_il, e_ll, e_al, e_lc0, e_lcs, e_ei, e_el, e_er, e_const, e_istore, e_lstore, e_astore, e_iinc, e_s1_0, e_s1_1, e_s1_2, e_s1_3, e_s1_4, e_s1_5, e_s1_6, e_s1_7, e_s1_8, e_s1_9, e_s1_10, e_s2_0, e_s2_1, e_s2_2, e_s2_3, e_s2_4, e_s2_5, e_s2_6, e_s2_7, e_s2_8, e_s2_9, e_s2_10, e_dln, e_dli, e_dlr, e_dll, e_b, e_bd, e_lb, e_lbd, e_lcmp, e_i2l, e_l2i, e_i2b, e_dupi, e_dupr, e_dup2, e_getf, e_at0, e_ats, e_putI, e_putL, e_putR, e_gets, e_alen, e_iald, e_iast, e_bast, e_aast, e_if1, e_if2, e_goto, e_sw, e_iret, e_zret, e_lret, e_vret, e_obji, List.set_cons_zero, List.set_cons_succ, List.set_nil, Option.toList, List.nil_append, List.cons_append, List.length_cons, List.length_nil, true_or, or_true, true_and, and_true, nd_fold, Nat.one_mul, ↓m_1, ↓m_2, ↓m_3, ↓m_4, ↓m_9, ↓m_1000, nm_ne, nm_ne', nm_inj, nm_lt, nm_le, nm_gt, nm_ge, nm_xor, nm_add, Nat.add_sub_cancel, not_true_eq_false, not_false_eq_true, na_inj, na_le, na_lt, na_add, na_mul, na_and, na_or, na_xor, na_shl, na_shr, na_sub, i_0, i_1, i_2, i_3, i_4, i_5, i_6, i_7, i_8, i_9, i_10, i_12, i_16, i_20, i_21, i_32, i_40, i_60, l_0, lc_eq0, la_inj]
      refine ⟨fun _ => fin x 0 _ e4, fun g => by first | exact g.elim | exact absurd rfl g | exact absurd trivial g⟩
    | succ y' ih =>
      intro y x l9 e1 e2 e3 e4
      refine kk_R_fraction_6 _ _ _ _ _ ?_
      simp (disch := omega) only [bk_R_fraction_6, e_cons, e_il, e_ll, e_al, e_lc0, e_lcs, e_ei, e_el, e_er, e_const, e_istore, e_lstore, e_astore, e_iinc, e_s1_0, e_s1_1, e_s1_2, e_s1_3, e_s1_4, e_s1_5, e_s1_6, e_s1_7, e_s1_8, e_s1_9, e_s1_10, e_s2_0, e_s2_1, e_s2_2, e_s2_3, e_s2_4, e_s2_5, e_s2_6, e_s2_7, e_s2_8, e_s2_9, e_s2_10, e_dln, e_dli, e_dlr, e_dll, e_b, e_bd, e_lb, e_lbd, e_lcmp, e_i2l, e_l2i, e_i2b, e_dupi, e_dupr, e_dup2, e_getf, e_at0, e_ats, e_putI, e_putL, e_putR, e_gets, e_alen, e_iald, e_iast, e_bast, e_aast, e_if1, e_if2, e_goto, e_sw, e_iret, e_zret, e_lret, e_vret, e_obji, List.set_cons_zero, List.set_cons_succ, List.set_nil, Option.toList, List.nil_append, List.cons_append, List.length_cons, List.length_nil, true_or, or_true, true_and, and_true, nd_fold, Nat.one_mul, ↓m_1, ↓m_2, ↓m_3, ↓m_4, ↓m_9, ↓m_1000, nm_ne, nm_ne', nm_inj, nm_lt, nm_le, nm_gt, nm_ge, nm_xor, nm_add, Nat.add_sub_cancel, not_true_eq_false, not_false_eq_true, na_inj, na_le, na_lt, na_add, na_mul, na_and, na_or, na_xor, na_shl, na_shr, na_sub, i_0, i_1, i_2, i_3, i_4, i_5, i_6, i_7, i_8, i_9, i_10, i_12, i_16, i_20, i_21, i_32, i_40, i_60, l_0, lc_eq0, la_inj, ↓la_rem]
      refine ⟨fun g => ?_, fun g => ⟨g, ?_⟩⟩
      · subst g
        rw [Nat.gcd_zero_right] at e4
        exact fin x 0 _ e4
      · have hm := Nat.mod_lt x (show y > 0 by omega)
        refine ih (x % y) y _ (by omega) e3 (by omega) ?_
        rw [← e4, Nat.gcd_comm x y, Nat.gcd_rec y x, Nat.gcd_comm]
  refine kk_R_fraction_0 _ _ _ _ _ ?_
  simp (disch := omega) only [bk_R_fraction_0, e_cons, e_il, e_ll, e_al, e_lc0, e_lcs, e_ei, e_el, e_er, e_const, e_istore, e_lstore, e_astore, e_iinc, e_s1_0, e_s1_1, e_s1_2, e_s1_3, e_s1_4, e_s1_5, e_s1_6, e_s1_7, e_s1_8, e_s1_9, e_s1_10, e_s2_0, e_s2_1, e_s2_2, e_s2_3, e_s2_4, e_s2_5, e_s2_6, e_s2_7, e_s2_8, e_s2_9, e_s2_10, e_dln, e_dli, e_dlr, e_dll, e_b, e_bd, e_lb, e_lbd, e_lcmp, e_i2l, e_l2i, e_i2b, e_dupi, e_dupr, e_dup2, e_getf, e_at0, e_ats, e_putI, e_putL, e_putR, e_gets, e_alen, e_iald, e_iast, e_bast, e_aast, e_if1, e_if2, e_goto, e_sw, e_iret, e_zret, e_lret, e_vret, e_obji, List.set_cons_zero, List.set_cons_succ, List.set_nil, Option.toList, List.nil_append, List.cons_append, List.length_cons, List.length_nil, true_or, or_true, true_and, and_true, nd_fold, Nat.one_mul, ↓m_1, ↓m_2, ↓m_3, ↓m_4, ↓m_9, ↓m_1000, nm_ne, nm_ne', nm_inj, nm_lt, nm_le, nm_gt, nm_ge, nm_xor, nm_add, Nat.add_sub_cancel, not_true_eq_false, not_false_eq_true, na_inj, na_le, na_lt, na_add, na_mul, na_and, na_or, na_xor, na_shl, na_shr, na_sub, i_0, i_1, i_2, i_3, i_4, i_5, i_6, i_7, i_8, i_9, i_10, i_12, i_16, i_20, i_21, i_32, i_40, i_60]
  exact loop b b a none (Nat.le_refl _) ha hb hG
end FR
