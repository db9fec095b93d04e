/-! behind the turns: numbers -/
theorem wh_some {s : cS} {q w : Nat} : ∀ {z k : Nat}, mswh s q z k = some w → k ≤ w ∧ w < k + z ∧ nd q (inN s w) = 0 ∧ ∀ j, k ≤ j → j < w → nd q (inN s j) ≠ 0
  | 0, _, h => by cases h
  | z + 1, k, h => by
    unfold mswh at h
    split at h
    · next g => cases h; exact ⟨Nat.le_refl _, by omega, g, fun j h1 h2 => absurd h2 (by omega)⟩
    · next g =>
      obtain ⟨a, b, c, d⟩ := wh_some h
      refine ⟨by omega, by omega, c, fun j h1 h2 => ?_⟩
      by_cases e : j = k
      · rw [e]; exact g
      · exact d j (by omega) h2
theorem wh_none {s : cS} {q : Nat} : ∀ {z k : Nat}, mswh s q z k = none → ∀ j, k ≤ j → j < k + z → nd q (inN s j) ≠ 0
  | 0, _, _, j, h1, h2 => absurd h2 (by omega)
  | z + 1, k, h, j, h1, h2 => by
    unfold mswh at h
    split at h
    · cases h
    · next g =>
      by_cases e : j = k
      · rw [e]; exact g
      · exact wh_none h j (by omega) (by omega)
theorem wh_le {s : cS} {q l w : Nat} (h : mswh s q 21 0 = some w) (hl : ∀ b, l.testBit b = true → q.testBit b = true) (hq : q < 64) (hl64 : l < 64) : ∃ w', mswh s l 21 0 = some w' ∧ w' ≤ w := by
  obtain ⟨a, b, c, d⟩ := wh_some h
  have hc : nd l (inN s w) = 0 := nd_0 (by omega) (fun x hx => nd_sub (by omega) c (hl x hx))
  cases e : mswh s l 21 0 with
  | none => exact absurd hc (wh_none e w (by omega) (by omega))
  | some w' =>
    obtain ⟨-, b', c', d'⟩ := wh_some e
    refine ⟨w', rfl, Nat.le_of_not_lt fun g => ?_⟩
    exact d' w (by omega) g hc
theorem wh_0 {s : cS} : mswh s 0 21 0 = some 0 := by
  unfold mswh
  rw [if_pos (nd_0 (by omega) (fun q hq => by rw [Nat.zero_testBit] at hq; cases hq))]
theorem in_sub {s : cS} {m : mS} (h : Rel s m) (k c : Nat) : ∀ q, (inC s k c).testBit q = true → s.nw.2.1.testBit q = true := (asd_res h).1
theorem in_lt {s : cS} {m : mS} (h : Rel s m) (k : Nat) {c : Nat} (hc : c < 256) : inC s k c < 64 := (asd_wf h hc).1.2.2.1
theorem mrm_b {s : cS} {i n : Nat} : ∀ {z k b : Nat} {l : Option Nat}, (mrm s i n z k b l).1 = b ∨ (k ≤ (mrm s i n z k b l).1 ∧ (mrm s i n z k b l).1 < k + z ∧ nd (mrm s i n z k b l).1 s.nw.2.2.1 = 0 ∧ ms_pop (mrm s i n z k b l).1 < ms_pop b)
  | 0, _, _, _ => Or.inl rfl
  | z + 1, k, b, l => by
    unfold mrm
    split
    · next g =>
      split
      · rcases mrm_b (s := s) (i := i) (n := n) (z := z) (k := k + 1) (b := b) (l := some (nd s.nw.2.2.1 k)) with h | ⟨h1, h2, h3, h4⟩
        · exact Or.inl h
        · exact Or.inr ⟨by omega, by omega, h3, h4⟩
      · rcases mrm_b (s := s) (i := i) (n := n) (z := z) (k := k + 1) (b := k) (l := some (nd s.nw.2.2.1 k)) with h | ⟨h1, h2, h3, h4⟩
        · rw [h]; exact Or.inr ⟨by omega, by omega, g.2, g.1⟩
        · exact Or.inr ⟨by omega, by omega, h3, by omega⟩
    · rcases mrm_b (s := s) (i := i) (n := n) (z := z) (k := k + 1) (b := b) (l := l) with h | ⟨h1, h2, h3, h4⟩
      · exact Or.inl h
      · exact Or.inr ⟨by omega, by omega, h3, h4⟩
theorem pop_00 : ms_pop 0 = 0 := by decide +kernel
theorem nd_self0 {c : Nat} (hc : c < 256) : nd c 0 = c := Nat.eq_of_testBit_eq fun q => by
  by_cases h : q < 32
  · rw [nd_bit h, Nat.zero_testBit]; simp
  · rw [bit8 hc (by omega), bit8 (Nat.lt_of_le_of_lt (nd_le c 0) hc) (by omega)]
/-- what remove tells -/
theorem rm_ok {s : cS} {m : mS} {i n : Nat} (h : Rel s m) (h0 : s.nw.2.2.1 ≠ 0) : ∃ R, (mrm s i n s.nw.2.2.1 0 s.nw.2.2.1 none).1 = R ∧ R < 256 ∧ nd R s.nw.2.2.1 = 0 ∧ ms_pop R ≤ ms_pop s.nw.2.2.1 ∧ (ms_pop R = 0 ↔ (inN s n).testBit i = false) := by
  have hc : s.nw.2.2.1 < 256 := h.gnw.1.1.2.2.2
  have hp := pop_pos _ hc h0
  have self : nd s.nw.2.2.1 s.nw.2.2.1 = 0 := nd_0 (by omega) (fun q hq => hq)
  obtain ⟨z, hz⟩ : ∃ z, s.nw.2.2.1 = z + 1 := ⟨s.nw.2.2.1 - 1, by omega⟩
  have g0 : ms_pop 0 < ms_pop s.nw.2.2.1 ∧ nd 0 s.nw.2.2.1 = 0 := ⟨by rw [pop_00]; exact hp, nd_0 (by omega) (fun q hq => by rw [Nat.zero_testBit] at hq; cases hq)⟩
  have e0 : ∀ b l, mrm s i n s.nw.2.2.1 0 b l = mrm s i n (z + 1) 0 b l := fun b l => by rw [hz]
  have in0 : inC s n (nd s.nw.2.2.1 0) = inN s n := by rw [nd_self0 hc]
  rw [e0]
  unfold mrm
  rw [if_pos g0]
  cases hb : (inN s n).testBit i with
  | true =>
    have e1 : (asd s.mn s.nw n (nd s.nw.2.2.1 0)).2.1.testBit i = true := by rw [show (asd s.mn s.nw n (nd s.nw.2.2.1 0)).2.1 = inN s n from in0]; exact hb
    rw [if_pos e1]
    rcases mrm_b (s := s) (i := i) (n := n) (z := z) (k := 0 + 1) (b := s.nw.2.2.1) (l := some (nd s.nw.2.2.1 0)) with g | ⟨g1, g2, g3, g4⟩
    · exact ⟨_, g, hc, self, Nat.le_refl _, fun k => absurd k (by omega), fun k => by cases k⟩
    · refine ⟨_, rfl, by omega, g3, by omega, fun k => ?_, fun k => by cases k⟩
      have := pop_0 _ (by omega) k
      omega
  | false =>
    have e1 : ¬ (asd s.mn s.nw n (nd s.nw.2.2.1 0)).2.1.testBit i = true := by rw [show (asd s.mn s.nw n (nd s.nw.2.2.1 0)).2.1 = inN s n from in0, hb]; exact Bool.false_ne_true
    rw [if_neg e1]
    rcases mrm_b (s := s) (i := i) (n := n) (z := z) (k := 0 + 1) (b := 0) (l := some (nd s.nw.2.2.1 0)) with g | ⟨g1, g2, g3, g4⟩
    · exact ⟨0, g, by omega, g0.2, by omega, fun _ => rfl, fun _ => pop_00⟩
    · rw [pop_00] at g4; omega
theorem sp_ok {s : cS} {i n q : Nat} : ∀ {z p : Nat} {l : Option Nat}, (msp s i n z p l).1 = some q → p ≤ q ∧ q < p + z ∧ s.nw.2.2.1.testBit q = true ∧ (inC s n (nd s.nw.2.2.1 (2 ^ q))).testBit i = true
  | 0, _, _, h => by cases h
  | z + 1, p, l, h => by
    unfold msp at h
    split at h
    · next g =>
      split at h
      · next g2 => cases h; exact ⟨Nat.le_refl _, by omega, g, g2⟩
      · obtain ⟨a, b, c, d⟩ := sp_ok h; exact ⟨by omega, by omega, c, d⟩
    · obtain ⟨a, b, c, d⟩ := sp_ok h; exact ⟨by omega, by omega, c, d⟩
/-! rounds -/
theorem mo_none {s : cS} {i n : Nat} : ∀ {z p : Nat} {o : Option (Nat × Nat)}, mo s i n z p o = none → o = none ∧ ∀ q, p ≤ q → q < p + z → pin s i n q = false
  | 0, _, _, h => ⟨h, fun q h1 h2 => absurd h2 (by omega)⟩
  | z + 1, p, o, h => by
    unfold mo at h
    obtain ⟨a, b⟩ := mo_none h
    unfold mnx at a
    split at a
    · cases a
    · next g =>
      subst a
      refine ⟨rfl, fun q h1 h2 => ?_⟩
      by_cases e : q = p
      · subst e
        cases hp : pin s i n q
        · rfl
        · rw [hp] at g; exact absurd rfl g
      · exact b q (by omega) (by omega)
theorem mo_some {s : cS} {i n f b : Nat} : ∀ {z p : Nat} {o : Option (Nat × Nat)}, mo s i n z p o = some (f, b) → (o = some (f, b) ∨ (p ≤ b ∧ b < p + z ∧ f = psum b n ∧ pin s i n b = true)) ∧ (∀ q, p ≤ q → q < p + z → pin s i n q = true → f ≤ psum q n) ∧ ∀ g, o = some g → f ≤ g.1
  | 0, _, o, h => by
    have h' : o = some (f, b) := h
    exact ⟨Or.inl h', fun q h1 h2 => absurd h2 (by omega), fun g e => by rw [h'] at e; cases e; exact Nat.le_refl _⟩
  | z + 1, p, o, h => by
    unfold mo at h
    obtain ⟨a1, a2, a3⟩ := mo_some h
    unfold mnx at a1 a3
    by_cases g : (mbt o (psum p n) && pin s i n p) = true
    · rw [if_pos g] at a1 a3
      have a3' := a3 _ rfl
      dsimp only at a3'
      have gb := (Bool.and_eq_true_iff.mp g)
      refine ⟨?_, fun q h1 h2 hq => ?_, fun e he => ?_⟩
      · rcases a1 with a1 | ⟨b1, b2, b3, b4⟩
        · cases a1; exact Or.inr ⟨Nat.le_refl _, by omega, rfl, gb.2⟩
        · exact Or.inr ⟨by omega, by omega, b3, b4⟩
      · by_cases e : q = p
        · rw [e]; exact a3'
        · exact a2 q (by omega) (by omega) hq
      · have : psum p n < e.1 := by
          have g1 := gb.1
          rw [he] at g1
          exact of_decide_eq_true g1
        omega
    · rw [if_neg g] at a1 a3
      refine ⟨?_, fun q h1 h2 hq => ?_, a3⟩
      · rcases a1 with a1 | ⟨b1, b2, b3, b4⟩
        · exact Or.inl a1
        · exact Or.inr ⟨by omega, by omega, b3, b4⟩
      · by_cases e : q = p
        · subst e
          rw [hq, Bool.and_true] at g
          cases o with
          | none => exact absurd rfl g
          | some e =>
            have := a3 _ rfl
            have g' : ¬ psum q n < e.1 := fun k => g (decide_eq_true k)
            omega
        · exact a2 q (by omega) (by omega) hq
theorem sm_last {D : Nat → Nat} : ∀ {z k : Nat}, sm D (z + 1) k = sm D z k + D (k + z)
  | 0, k => by show D k + 0 = 0 + D (k + 0); rw [Nat.add_zero, Nat.zero_add, Nat.add_zero]
  | z + 1, k => by
    show D k + sm D (z + 1) (k + 1) = (D k + sm D z (k + 1)) + D (k + (z + 1))
    rw [sm_last (z := z), show k + 1 + z = k + (z + 1) by omega, Nat.add_assoc]
theorem sm_ext {D E : Nat → Nat} : ∀ {z k : Nat}, (∀ j, k ≤ j → j < k + z → D j = E j) → sm D z k = sm E z k
  | 0, _, _ => rfl
  | z + 1, k, h => by
    show D k + sm D z (k + 1) = E k + sm E z (k + 1)
    rw [h k (Nat.le_refl _) (by omega), sm_ext (z := z) (fun j h1 h2 => h j (by omega) (by omega))]
theorem dig_r {p n k : Nat} (h : k < n) : dig p (n + 1) k = dig (p / 6) n k := by
  unfold dig
  rw [show n + 1 - (k + 1) = (n - (k + 1)) + 1 by omega]
  rfl
theorem psum_r {p n : Nat} : psum p (n + 1) = psum (p / 6) n + dig p (n + 1) n := by
  unfold psum
  rw [sm_last, Nat.zero_add, sm_ext (D := dig p (n + 1)) (E := dig (p / 6) n) (fun j _ h => dig_r (by omega))]
theorem psum_5 {p n : Nat} : psum p n ≤ 5 * n := by
  have key : ∀ z k, sm (dig p n) z k ≤ 5 * z := by
    intro z
    induction z with
    | zero => intro k; exact Nat.le_refl _
    | succ z ih =>
      intro k
      have h1 := dig_lt (p := p) (n := n) (k := k)
      have h2 := ih (k + 1)
      show dig p n k + sm (dig p n) z (k + 1) ≤ 5 * (z + 1)
      omega
  exact key n 0
theorem rgo_last {mn : cM} {D : Nat → Nat} : ∀ {z k : Nat} {w : cR}, rgo mn D (z + 1) k w = rgs mn (D (k + z)) (rgo mn D z k w)
  | 0, k, w => rfl
  | z + 1, k, w => by
    show rgo mn D (z + 1) (k + 1) (rgs mn (D k) w) = rgs mn (D (k + (z + 1))) (rgo mn D z (k + 1) (rgs mn (D k) w))
    rw [rgo_last (z := z), show k + 1 + z = k + (z + 1) by omega]
theorem rgo_ext {mn : cM} {D E : Nat → Nat} : ∀ {z k : Nat} {w : cR}, (∀ j, k ≤ j → j < k + z → D j = E j) → rgo mn D z k w = rgo mn E z k w
  | 0, _, _, _ => rfl
  | z + 1, k, w, h => by
    show rgo mn D z (k + 1) (rgs mn (D k) w) = rgo mn E z (k + 1) (rgs mn (E k) w)
    rw [h k (Nat.le_refl _) (by omega), rgo_ext (z := z) (fun j h1 h2 => h j (by omega) (by omega))]
theorem pin_r {s : cS} {i n p : Nat} (h : pin s i (n + 1) p = true) : pin s i n (p / 6) = true := by
  unfold pin at h ⊢
  rw [rgo_last, rgo_ext (D := dig p (n + 1)) (E := dig (p / 6) n) (fun j _ h => dig_r (by omega))] at h
  cases g : (rgo s.mn (dig (p / 6) n) n 0 s.nw).2.1.testBit i
  · rw [rgs_in g] at h; cases h
  · rfl
abbrev rO (s : cS) (i n : Nat) : Option (Nat × Nat) := mo s i n (6 ^ n) 0 none
theorem rO_0 {s : cS} {i : Nat} (h : s.nw.2.1.testBit i = true) : rO s i 0 = some (0, 0) := by
  have hp : pin s i 0 0 = true := h
  show mo s i 0 1 0 none = some (0, 0)
  unfold mo mnx
  rw [hp]
  rfl
theorem rO_f {s : cS} {i n f b : Nat} (h : rO s i n = some (f, b)) : b < 6 ^ n ∧ f = psum b n ∧ pin s i n b = true := by
  obtain ⟨a, -, -⟩ := mo_some h
  rcases a with a | ⟨-, a2, a3, a4⟩
  · cases a
  · exact ⟨by omega, a3, a4⟩
theorem rO_s {s : cS} {i n f b : Nat} (h : rO s i (n + 1) = some (f, b)) : ∃ f' b', rO s i n = some (f', b') ∧ f' ≤ f := by
  obtain ⟨a1, a2, a3⟩ := rO_f h
  have hp := pin_r a3
  have hb : b / 6 < 6 ^ n := by rw [Nat.pow_succ] at a1; omega
  cases e : rO s i n with
  | none =>
    have := (mo_none e).2 (b / 6) (by omega) (by omega)
    rw [hp] at this
    cases this
  | some g =>
    obtain ⟨f', b'⟩ := g
    refine ⟨f', b', rfl, ?_⟩
    have := (mo_some e).2.1 (b / 6) (by omega) (by omega) hp
    rw [a2, psum_r]
    omega
/-! pairs -/
theorem mst_bit {f : Nat → Bool} {j : Nat} : ∀ {k : Nat}, (mst f k).testBit j = (decide (j < k) && f j)
  | 0 => by show (0 : Nat).testBit j = _; rw [Nat.zero_testBit]; simp
  | k + 1 => by
    show (mst f k ||| (if f k then 2 ^ k else 0)).testBit j = _
    rw [Nat.testBit_or, mst_bit (k := k)]
    by_cases e : j = k
    · subst e
      cases hf : f j
      · simp
      · simp [Nat.testBit_two_pow]
    · have e2 : (if f k = true then 2 ^ k else 0).testBit j = false := by
        split
        · rw [Nat.testBit_two_pow]; exact decide_eq_false (fun g => e g.symm)
        · exact Nat.zero_testBit j
      rw [e2, Bool.or_false]
      congr 1
      exact decide_eq_decide.mpr (by omega)
theorem mst_lt {f : Nat → Bool} : ∀ k, mst f k < 2 ^ k
  | 0 => by show 0 < 2 ^ 0; decide
  | k + 1 => by
    show mst f k ||| (if f k then 2 ^ k else 0) < 2 ^ (k + 1)
    refine or_lt (Nat.lt_trans (mst_lt k) (pow_lt (by omega))) ?_
    split
    · exact pow_lt (by omega)
    · exact Nat.two_pow_pos _
theorem mst_ext {f g : Nat → Bool} {k : Nat} (h : ∀ j, j < k → f j = g j) : mst f k = mst g k := Nat.eq_of_testBit_eq fun j => by
  rw [mst_bit, mst_bit]
  by_cases e : j < k
  · rw [h j e]
  · rw [decide_eq_false e]; rfl
theorem mst_63 : mst (fun _ => true) 6 = 63 := by decide
theorem mst_255 : mst (fun _ => true) 8 = 255 := by decide
theorem mst_14 : mst (fun j => decide (1 ≤ j)) 4 = 14 := by decide
theorem mst_14' {f : Nat → Bool} (h : f 0 = false) : mst f 4 ≤ 14 := by
  have h1 := mst_lt (f := f) 4
  have h2 : (mst f 4).testBit 0 = false := by rw [mst_bit, h]; rfl
  rw [Nat.testBit_zero] at h2
  have h3 : ¬ mst f 4 % 2 = 1 := of_decide_eq_false h2
  have : (2 : Nat) ^ 4 = 16 := by decide
  omega
/-- pairs that are so -/
def prs (A : List Int32) (q kd pc c p : Nat) : Prop := ∀ y, y < q → ∃ b, b < 21 ∧ ig A (2 * y) = nI b ∧ ig A (2 * y + 1) = nI (ms_aft kd pc c b p)
theorem prs_g {A : List Int32} {q kd pc c p : Nat} (hp : p < 8) (h : prs A q kd pc c p) : mgp A q 0 = true := by
  have key : ∀ z y, y + z = q → mgp A z (2 * y) = true := by
    intro z
    induction z with
    | zero => intro y _; rfl
    | succ z ih =>
      intro y e
      obtain ⟨b, h1, h2, h3⟩ := h y (by omega)
      have ha := ms_aft_lt (k := kd) (pc := pc) (c := c) (n := b) hp
      unfold mgp
      rw [h2, h3, ix_nI h1 (by omega), ix_nI ha (by omega), show 2 * y + 2 = 2 * (y + 1) by omega, ih (y + 1) (by omega)]
      rfl
  exact key q 0 (by omega)
theorem prs_f {A : List Int32} {q kd pc c p : Nat} (h : prs A q kd pc c p) : mft kd pc p c A q 0 = true := by
  have key : ∀ z y, y + z = q → mft kd pc p c A z (2 * y) = true := by
    intro z
    induction z with
    | zero => intro y _; rfl
    | succ z ih =>
      intro y e
      obtain ⟨b, h1, h2, h3⟩ := h y (by omega)
      unfold mft
      rw [h2, h3, nI_toInt (by omega), show ((b : Nat) : Int).toNat = b from rfl, decide_eq_true rfl, show 2 * y + 2 = 2 * (y + 1) by omega, ih (y + 1) (by omega)]
      rfl
  exact key q 0 (by omega)
/-! chances -/
theorem uS_K {b : Nat → Nat} {n p K : Nat} (hb : ∀ k, b k ≤ K) (hp : p ≤ 12) : ∀ r, uS b n p r ≤ K * 12 ^ r
  | 0 => by show b n ≤ K * 12 ^ 0; have := hb n; rw [Nat.pow_zero]; omega
  | r + 1 => by
    show p * 12 ^ r * b (n - (r + 1)) + (12 - p) * uS b n p r ≤ K * 12 ^ (r + 1)
    have h1 := uS_K hb hp (n := n) r
    have h2 : p * 12 ^ r * b (n - (r + 1)) ≤ p * 12 ^ r * K := Nat.mul_le_mul_left _ (hb _)
    have h3 : (12 - p) * uS b n p r ≤ (12 - p) * (K * 12 ^ r) := Nat.mul_le_mul_left _ h1
    have h4 : p * 12 ^ r * K + (12 - p) * (K * 12 ^ r) = K * 12 ^ (r + 1) := by
      rw [Nat.pow_succ, show p * 12 ^ r * K = p * (K * 12 ^ r) by ac_rfl, ← Nat.add_mul, show p + (12 - p) = 12 by omega]
      ac_rfl
    omega
theorem uS_p0 {b : Nat → Nat} {n : Nat} : ∀ r, uS b n 0 r = 12 ^ r * b n
  | 0 => by show b n = 12 ^ 0 * b n; rw [Nat.pow_zero, Nat.one_mul]
  | r + 1 => by
    show 0 * 12 ^ r * b (n - (r + 1)) + (12 - 0) * uS b n 0 r = _
    rw [uS_p0 r, Nat.zero_mul, Nat.zero_mul, Nat.zero_add, Nat.pow_succ]
    show 12 * (12 ^ r * b n) = _
    ac_rfl
theorem uS_p12 {b : Nat → Nat} {n r : Nat} : uS b n 12 (r + 1) = 12 ^ (r + 1) * b (n - (r + 1)) := by
  show 12 * 12 ^ r * b (n - (r + 1)) + (12 - 12) * uS b n 12 r = _
  rw [Nat.sub_self, Nat.zero_mul, Nat.add_zero, Nat.pow_succ]
  ac_rfl
theorem fr_1 {u w k : Nat} (hw : 0 < w) (h : u = w * k) : u / Nat.gcd u w = k ∧ w / Nat.gcd u w = 1 := by
  have e : Nat.gcd u w = w := by rw [h]; exact Nat.gcd_mul_right_left _ _
  rw [e, h]
  exact ⟨Nat.mul_div_cancel_left _ hw, Nat.div_self hw⟩
theorem fr_K {u w K : Nat} (hw : 0 < w) (h : u ≤ K * w) : u / Nat.gcd u w ≤ K * (w / Nat.gcd u w) := by
  have hd := Nat.gcd_dvd_right u w
  rw [← Nat.mul_div_assoc _ hd]
  exact Nat.div_le_div_right h
theorem fr_l {u w : Nat} (hw : 0 < w) : u / Nat.gcd u w ≤ u ∧ w / Nat.gcd u w ≤ w := ⟨Nat.div_le_self _ _, Nat.div_le_self _ _⟩
/-! a tune -/
theorem rp_y {A : List Int32} {r : Nat} : ∀ {z i : Nat}, (∀ y, i ≤ y → y < i + z → ig A y = ig A (y - r)) → ms_rp A r z i = true
  | 0, _, _ => rfl
  | z + 1, i, h => by
    unfold ms_rp
    rw [if_pos (h i (Nat.le_refl _) (by omega))]
    exact rp_y (fun y h1 h2 => h y (by omega) (by omega))
theorem rp_n {A : List Int32} {r : Nat} : ∀ {z i : Nat}, ms_rp A r z i = true → ∀ y, i ≤ y → y < i + z → ig A y = ig A (y - r)
  | 0, _, _, y, h1, h2 => absurd h2 (by omega)
  | z + 1, i, h, y, h1, h2 => by
    unfold ms_rp at h
    split at h
    · next g =>
      by_cases e : y = i
      · rw [e]; exact g
      · exact rp_n h y (by omega) (by omega)
    · cases h
theorem tn_y {A : List Int32} {n r0 : Nat} (hr : r0 ≤ n) (hp : ms_rp A r0 (n - r0) r0 = true) : ∀ {z r : Nat}, r ≤ r0 → r0 < r + z → ∃ t, ms_tn A n z r = some t ∧ r ≤ t ∧ t ≤ r0 ∧ ms_rp A t (n - t) t = true
  | 0, r, h1, h2 => absurd h2 (by omega)
  | z + 1, r, h1, h2 => by
    unfold ms_tn
    rw [if_pos (by omega)]
    cases g : ms_rp A r (n - r) r with
    | true => exact ⟨r, by rw [if_pos rfl], Nat.le_refl _, h1, g⟩
    | false =>
      rw [if_neg (by simp)]
      by_cases e : r = r0
      · subst e; rw [hp] at g; cases g
      · obtain ⟨t, a, b, c, d⟩ := tn_y hr hp (z := z) (r := r + 1) (by omega) (by omega)
        exact ⟨t, a, by omega, c, d⟩
