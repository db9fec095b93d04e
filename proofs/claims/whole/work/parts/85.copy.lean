/-! copy -/
theorem lc_le {u w : Int64} : (lg_cmp u w ≤ 0) = (u.toInt ≤ w.toInt) := by
  have h := lc_gt (u := u) (w := w)
  have e : (lg_cmp u w ≤ 0) = ¬ (0 < lg_cmp u w) := by
    refine propext ⟨fun a b => ?_, fun a => ?_⟩
    · rw [Int32.le_iff_toInt_le] at a; rw [Int32.lt_iff_toInt_lt] at b; omega
    · rw [Int32.le_iff_toInt_le]; rw [Int32.lt_iff_toInt_lt] at a; omega
  rw [e, h]
  exact propext ⟨fun a => by omega, fun a => by omega⟩
theorem l_add (x y : Int32) : (x.toInt64 + y.toInt64).toInt = x.toInt + y.toInt := by
  have a1 := Int32.toInt_lt x
  have a2 := Int32.le_toInt x
  have b1 := Int32.toInt_lt y
  have b2 := Int32.le_toInt y
  rw [Int64.toInt_add, Int32.toInt_toInt64, Int32.toInt_toInt64]
  exact Int.bmod_eq_of_le (by omega) (by omega)
def cpp (up : Bool) (q k : Nat) : Nat := if up then q - 1 - k else k
def cpl (RW : List Int32) (d s q : Nat) (up : Bool) : Nat → List Int32
  | 0 => RW
  | k + 1 => (cpl RW d s q up k).set (d + cpp up q k) (ig (cpl RW d s q up k) (s + cpp up q k))
theorem cpl_len {RW : List Int32} {d s q : Nat} {up : Bool} : ∀ {k : Nat}, (cpl RW d s q up k).length = RW.length
  | 0 => rfl
  | k + 1 => by unfold cpl; rw [List.length_set]; exact cpl_len
theorem cpl_at {RW : List Int32} {d s q : Nat} {up : Bool} (hd : d + q ≤ RW.length) (ho : s + q ≤ d ∨ d + q ≤ s ∨ (up = true ∧ s < d) ∨ (up = false ∧ d ≤ s)) : ∀ {k : Nat}, k ≤ q → ∀ x, ig (cpl RW d s q up k) x = if d + (if up then q - k else 0) ≤ x ∧ x < d + (if up then q else k) then ig RW (x - d + s) else ig RW x
  | 0, _, x => by
    rw [if_neg (by cases up <;> simp <;> omega)]
    rfl
  | k + 1, hk, x => by
    have hp : cpp up q k < q := by unfold cpp; split <;> omega
    have src : ig (cpl RW d s q up k) (s + cpp up q k) = ig RW (s + cpp up q k) := by
      rw [cpl_at hd ho (k := k) (by omega)]
      refine if_neg ?_
      cases up
      · have ho' : s + q ≤ d ∨ d + q ≤ s ∨ d ≤ s := by rcases ho with g | g | g | g; exact Or.inl g; exact Or.inr (Or.inl g); exact absurd g.1 (by decide); exact Or.inr (Or.inr g.2)
        simp only [cpp, Bool.false_eq_true, if_false, Nat.add_zero]
        omega
      · have ho' : s + q ≤ d ∨ d + q ≤ s ∨ s < d := by rcases ho with g | g | g | g; exact Or.inl g; exact Or.inr (Or.inl g); exact Or.inr (Or.inr g.2); exact absurd g.1 (by decide)
        simp only [cpp, if_true]
        omega
    unfold cpl
    rw [src, ig_set (by rw [cpl_len]; omega), cpl_at hd ho (k := k) (by omega) x]
    cases up
    · simp only [cpp, Bool.false_eq_true, if_false, Nat.add_zero]
      by_cases e : x = d + k
      · rw [if_pos e, if_pos (show d ≤ x ∧ x < d + (k + 1) by omega)]
        congr 1
        omega
      · rw [if_neg e]
        by_cases e2 : d ≤ x ∧ x < d + k
        · rw [if_pos e2, if_pos (by omega)]
        · rw [if_neg e2, if_neg (by omega)]
    · simp only [cpp, if_true]
      by_cases e : x = d + (q - 1 - k)
      · rw [if_pos e, if_pos (show d + (q - (k + 1)) ≤ x ∧ x < d + q by omega)]
        congr 1
        omega
      · rw [if_neg e]
        by_cases e2 : d + (q - k) ≤ x ∧ x < d + q
        · rw [if_pos e2, if_pos (by omega)]
        · rw [if_neg e2, if_neg (by omega)]
theorem rRow_copy {N most k1 k2 i j q n1 n2 : Nat} {rw : List Int32 × List (List Int32)} {RS RW : List Int32} (h : rRow N most rw RS RW) (hk1 : k1 < N) (hk2 : k2 < N) (h1 : i + q ≤ n1) (h2 : j + q ≤ n2) (hn1 : n1 ≤ most) (hn2 : n2 ≤ most) (hS1 : ig rw.1 k1 = nI n1) (hS2 : ig rw.1 k2 = nI n2) (hM : most < 100) :
    rRow N most (rw.1, rw.2.set k2 ((rw.2.getD k2 []).take j ++ ((rw.2.getD k1 []).drop i).take q ++ (rw.2.getD k2 []).drop (j + q))) RS (cpl RW (most * k2 + j) (most * k1 + i) q (decide (i < j)) q) := by
  obtain ⟨⟨a1, a2, a3, a4⟩, b1, b2, b3⟩ := h
  have c1 := a3 k1 hk1
  have c2 := a3 k2 hk2
  have hb : most * k2 + most ≤ RW.length := by
    rw [b2, ← Nat.mul_succ, Nat.mul_comm]
    exact Nat.mul_le_mul_right _ hk2
  have ho : most * k1 + i + q ≤ most * k2 + j ∨ most * k2 + j + q ≤ most * k1 + i ∨ (decide (i < j) = true ∧ most * k1 + i < most * k2 + j) ∨ (decide (i < j) = false ∧ most * k2 + j ≤ most * k1 + i) := by
    rcases Nat.lt_trichotomy k1 k2 with e | e | e
    · have : most * k1 + most ≤ most * k2 := by rw [← Nat.mul_succ]; exact Nat.mul_le_mul_left _ e
      omega
    · subst e
      by_cases g : i < j
      · exact Or.inr (Or.inr (Or.inl ⟨decide_eq_true g, by omega⟩))
      · exact Or.inr (Or.inr (Or.inr ⟨decide_eq_false g, by omega⟩))
    · have : most * k2 + most ≤ most * k1 := by rw [← Nat.mul_succ]; exact Nat.mul_le_mul_left _ e
      omega
  have lA : ((rw.2[k1]?).getD []).length = most := by rw [← List.getD_eq_getElem?_getD]; exact c1
  have lB : ((rw.2[k2]?).getD []).length = most := by rw [← List.getD_eq_getElem?_getD]; exact c2
  have m1 : min j most = j := Nat.min_eq_left (by omega)
  have m2 : min q (most - i) = q := Nat.min_eq_left (by omega)
  have hlen : ((rw.2.getD k2 []).take j ++ ((rw.2.getD k1 []).drop i).take q ++ (rw.2.getD k2 []).drop (j + q)).length = most := by
    simp only [List.length_append, List.length_take, List.length_drop]
    omega
  refine ⟨⟨a1, by simp [a2], fun y hy => ?_, a4⟩, b1, by rw [cpl_len, b2], fun y hy u hu hs p hp => ?_⟩
  · show ((rw.2.set k2 _).getD y []).length = most
    rw [gd_set (by omega)]
    split
    · exact hlen
    · exact a3 y hy
  · show ig (cpl _ _ _ _ _ _) _ = ig ((rw.2.set k2 _).getD y []) p
    rw [cpl_at (by omega) ho (Nat.le_refl q), gd_set (by omega)]
    simp only [Nat.sub_self, ite_self, Nat.add_zero]
    by_cases e : y = k2
    · subst e
      rw [if_pos rfl]
      have hs2 : nI u = nI n2 := by rw [← hS2]; exact hs.symm
      rw [na_inj (by omega) (by omega)] at hs2
      by_cases g : j ≤ p ∧ p < j + q
      · rw [if_pos (by omega)]
        have := b3 k1 hk1 n1 hn1 hS1 (i + (p - j)) (by omega)
        rw [show most * y + p - (most * y + j) + (most * k1 + i) = most * k1 + (i + (p - j)) by omega, this]
        unfold ig
        simp only [List.getD_eq_getElem?_getD, List.getElem?_append, List.length_append, List.length_take, List.length_drop, List.getElem?_take, List.getElem?_drop, lA, lB, m1, m2]
        simp (disch := omega) only [if_pos, if_neg]
      · rw [if_neg (by omega), b3 y hy u hu hs p hp]
        unfold ig
        simp only [List.getD_eq_getElem?_getD, List.getElem?_append, List.length_append, List.length_take, List.length_drop, List.getElem?_take, List.getElem?_drop, lA, lB, m1, m2]
        by_cases g2 : p < j
        · simp (disch := omega) only [if_pos, if_neg]
        · simp (disch := omega) only [if_pos, if_neg]
          rw [show j + q + (p - (j + q)) = p by omega]
    · rw [if_neg e, if_neg ?_]
      · exact b3 y hy u hu hs p hp
      · intro g
        rcases Nat.lt_or_gt_of_ne e with e | e
        · have : most * y + most ≤ most * k2 := by rw [← Nat.mul_succ]; exact Nat.mul_le_mul_left _ e
          omega
        · have : most * k2 + most ≤ most * y := by rw [← Nat.mul_succ]; exact Nat.mul_le_mul_left _ e
          omega
