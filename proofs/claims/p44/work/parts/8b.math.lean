/-! numbers: what a STOP leaves behind -/
theorem ms_find_new {k c tk p q : Nat} (h : ms_find k c tk p = some q) : tk.testBit q = false ∨ k = 4 := by
  unfold ms_find at h
  split at h
  · next q' h1 =>
    cases h
    obtain ⟨a, b⟩ := ms_fs_lt h1
    rw [nd_bit (by omega)] at b
    simp at b
    exact Or.inl b.2
  · split at h
    · next h4 => exact Or.inr h4
    · cases h
theorem ms_p1_ne {k pc c i j : Nat} {ps : List Nat} (h : j ≠ i) : (ms_p1 k pc c i ps).getD j 0 = ps.getD j 0 := by
  unfold ms_p1
  split
  · rw [List.getD_eq_getElem?_getD, List.getElem?_set_ne (Ne.symm h), List.getD_eq_getElem?_getD]
  · rfl
theorem set_ne {ps : List Nat} {i j v : Nat} (h : j ≠ i) : (ps.set i v).getD j 0 = ps.getD j 0 := by
  rw [List.getD_eq_getElem?_getD, List.getElem?_set_ne (Ne.symm h), List.getD_eq_getElem?_getD]
theorem bit64 {x e : Nat} (h : x < 64) (hb : x.testBit e = true) : e < 6 := Classical.byContradiction fun g => by
  rw [Nat.testBit_lt_two_pow (Nat.lt_of_lt_of_le (show x < 2 ^ 6 from h) (Nat.pow_le_pow_right (by omega) (by omega)))] at hb
  cases hb
theorem bit256 {x e : Nat} (h : x < 256) (hb : x.testBit e = true) : e < 8 := Classical.byContradiction fun g => by rw [bit8 h g] at hb; cases hb
/-- those who have looked (not in L any more) are at CHAIRS that are taken -/
def hinv (ks L : List Nat) (S : List Nat × Nat × Nat) : Prop :=
  (∀ e, e ∉ L → S.2.1.testBit e = true → S.2.2.testBit (S.1.getD e 0) = true) ∧
  (∀ q, S.2.2.testBit q = true → ∃ e, e ∉ L ∧ S.2.1.testBit e = true ∧ S.1.getD e 0 = q) ∧
  (∀ e e', e ∉ L → e' ∉ L → e ≠ e' → S.2.1.testBit e = true → S.2.1.testBit e' = true → S.1.getD e 0 = S.1.getD e' 0 → ks.getD e 0 = 4 ∨ ks.getD e' 0 = 4)
theorem hinv_seat {ks L : List Nat} {pc c i : Nat} {S : List Nat × Nat × Nat} (hi : i < S.1.length) (hn : i ∉ L) (h64 : S.2.1 < 64) (hb : S.2.1.testBit i = true) (h : hinv ks (i :: L) S) : hinv ks L (ms_seat (ks.getD i 0) pc c i S) := by
  obtain ⟨h1, h2, h3⟩ := h
  have ni : ∀ e, e ∉ L → e ≠ i → e ∉ i :: L := fun e a b g => (List.mem_cons.mp g).elim b a
  unfold ms_seat
  split
  · next q hq =>
    have pl : ∀ e, e ≠ i → ((ms_p1 (ks.getD i 0) pc c i S.1).set i q).getD e 0 = S.1.getD e 0 := fun e he => by rw [set_ne he, ms_p1_ne he]
    have pi : ((ms_p1 (ks.getD i 0) pc c i S.1).set i q).getD i 0 = q := by rw [gs (by rw [ms_p1_len]; exact hi), if_pos rfl]
    have or1 : ∀ x, (S.2.2 ||| 2 ^ q).testBit x = (S.2.2.testBit x || decide (q = x)) := fun x => by rw [Nat.testBit_or, Nat.testBit_two_pow]
    have old : ∀ e, e ∉ L → e ≠ i → S.2.1.testBit e = true → ((ms_p1 (ks.getD i 0) pc c i S.1).set i q).getD e 0 = q → ks.getD i 0 = 4 := by
      intro e a b d f
      rw [pl e b] at f
      have := h1 e (ni e a b) d
      rw [f] at this
      rcases ms_find_new hq with g | g
      · rw [g] at this; cases this
      · exact g
    refine ⟨fun e a d => ?_, fun x hx => ?_, fun e e' a a' ne d d' f => ?_⟩
    · show (S.2.2 ||| 2 ^ q).testBit (((ms_p1 (ks.getD i 0) pc c i S.1).set i q).getD e 0) = true
      by_cases he : e = i
      · subst he; rw [pi, or1]; simp
      · rw [pl e he, or1, h1 e (ni e a he) d]; rfl
    · have hx' : (S.2.2 ||| 2 ^ q).testBit x = true := hx
      rw [or1] at hx'
      by_cases e : q = x
      · subst e; exact ⟨i, hn, hb, pi⟩
      · simp [e] at hx'
        obtain ⟨e', a, b, d⟩ := h2 x hx'
        have he : e' ≠ i := fun g => a (by rw [g]; exact List.mem_cons_self)
        exact ⟨e', fun g => a (List.mem_cons_of_mem _ g), b, by show ((ms_p1 (ks.getD i 0) pc c i S.1).set i q).getD e' 0 = x; rw [pl e' he]; exact d⟩
    · have f' : ((ms_p1 (ks.getD i 0) pc c i S.1).set i q).getD e 0 = ((ms_p1 (ks.getD i 0) pc c i S.1).set i q).getD e' 0 := f
      by_cases he : e = i
      · subst he
        rw [pi] at f'
        exact Or.inl (old e' a' (Ne.symm ne) d' f'.symm)
      · by_cases he' : e' = i
        · subst he'
          rw [pi] at f'
          exact Or.inr (old e a he d f')
        · rw [pl e he, pl e' he'] at f'
          exact h3 e e' (ni e a he) (ni e' a' he') ne d d' f'
  · have pl : ∀ e, e ≠ i → (ms_p1 (ks.getD i 0) pc c i S.1).getD e 0 = S.1.getD e 0 := fun e he => ms_p1_ne he
    have bt : ∀ e, (nd S.2.1 (2 ^ i)).testBit e = true → S.2.1.testBit e = true ∧ e ≠ i := by
      intro e g
      have g0 : S.2.1.testBit e = true := by unfold nd at g; rw [Nat.testBit_and] at g; simp at g; exact g.1
      have := bit64 h64 g0
      rw [nd_bit (by omega), Nat.testBit_two_pow] at g
      simp at g
      exact ⟨g0, fun k => g.2 k.symm⟩
    have tb : ∀ e, S.2.1.testBit e = true → e ≠ i → (nd S.2.1 (2 ^ i)).testBit e = true := by
      intro e g ne
      have := bit64 h64 g
      rw [nd_bit (by omega), Nat.testBit_two_pow, g]
      simp
      exact fun k => ne k.symm
    refine ⟨fun e a d => ?_, fun x hx => ?_, fun e e' a a' ne d d' f => ?_⟩
    · obtain ⟨b1, b2⟩ := bt e d
      show S.2.2.testBit ((ms_p1 (ks.getD i 0) pc c i S.1).getD e 0) = true
      rw [pl e b2]
      exact h1 e (ni e a b2) b1
    · obtain ⟨e', a, b, d⟩ := h2 x hx
      have he : e' ≠ i := fun g => a (by rw [g]; exact List.mem_cons_self)
      exact ⟨e', fun g => a (List.mem_cons_of_mem _ g), tb e' b he, by show (ms_p1 (ks.getD i 0) pc c i S.1).getD e' 0 = x; rw [pl e' he]; exact d⟩
    · obtain ⟨b1, b2⟩ := bt e d
      obtain ⟨c1, c2⟩ := bt e' d'
      have f' : (ms_p1 (ks.getD i 0) pc c i S.1).getD e 0 = (ms_p1 (ks.getD i 0) pc c i S.1).getD e' 0 := f
      rw [pl e b2, pl e' c2] at f'
      exact h3 e e' (ni e a b2) (ni e' a' c2) ne b1 c1 f'
theorem ms_seat_len {k pc c i : Nat} {S : List Nat × Nat × Nat} : (ms_seat k pc c i S).1.length = S.1.length := by
  unfold ms_seat
  split
  · show ((ms_p1 k pc c i S.1).set i _).length = _; rw [List.length_set, ms_p1_len]
  · exact ms_p1_len
theorem ms_seat_64 {k pc c i : Nat} {S : List Nat × Nat × Nat} (h : S.2.1 < 64) : (ms_seat k pc c i S).2.1 < 64 := by
  unfold ms_seat
  split
  · exact h
  · exact Nat.lt_of_le_of_lt (nd_le _ _) h
theorem hinv_ht {ks pcs : List Nat} {c : Nat} : ∀ (L : List Nat) (S : List Nat × Nat × Nat), L.Nodup → (∀ i, i ∈ L → i < S.1.length) → S.2.1 < 64 → hinv ks L S → hinv ks [] (ms_ht ks pcs c L S)
  | [], _, _, _, _, h => h
  | i :: L, S, hN, hl, h64, h => by
    have hN' := List.nodup_cons.mp hN
    unfold ms_ht
    cases hb : S.2.1.testBit i with
    | true =>
      rw [if_pos rfl]
      refine hinv_ht L _ hN'.2 (fun j hj => ?_) (ms_seat_64 h64) (hinv_seat (hl i List.mem_cons_self) hN'.1 h64 hb h)
      rw [ms_seat_len]
      exact hl j (List.mem_cons_of_mem _ hj)
    | false =>
      rw [if_neg (by simp)]
      refine hinv_ht L _ hN'.2 (fun j hj => hl j (List.mem_cons_of_mem _ hj)) h64 ?_
      obtain ⟨h1, h2, h3⟩ := h
      have ni : ∀ e, e ∉ L → S.2.1.testBit e = true → e ∉ i :: L := fun e a b g => (List.mem_cons.mp g).elim (fun k => by rw [k, hb] at b; cases b) a
      refine ⟨fun e a d => h1 e (ni e a d) d, fun x hx => ?_, fun e e' a a' ne d d' f => h3 e e' (ni e a d) (ni e' a' d') ne d d' f⟩
      obtain ⟨e', a, b, d⟩ := h2 x hx
      exact ⟨e', fun g => a (List.mem_cons_of_mem _ g), b, d⟩
theorem ms_seat_tk {k pc c i q : Nat} {S : List Nat × Nat × Nat} (h : ∀ q, S.2.2.testBit q = true → c.testBit q = true) (hq : (ms_seat k pc c i S).2.2.testBit q = true) : c.testBit q = true := by
  unfold ms_seat at hq
  split at hq
  · next r hr =>
    have hq' : (S.2.2 ||| 2 ^ r).testBit q = true := hq
    rw [Nat.testBit_or, Nat.testBit_two_pow] at hq'
    by_cases e : r = q
    · subst e; exact (ms_find_lt hr).2
    · simp [e] at hq'; exact h q hq'
  · exact h q hq
theorem ms_ht_tk {ks pcs : List Nat} {c : Nat} : ∀ (L : List Nat) (S : List Nat × Nat × Nat), (∀ q, S.2.2.testBit q = true → c.testBit q = true) → ∀ q, (ms_ht ks pcs c L S).2.2.testBit q = true → c.testBit q = true
  | [], _, h => h
  | i :: L, S, h => by
    unfold ms_ht
    split
    · exact ms_ht_tk L _ (fun q hq => ms_seat_tk h hq)
    · exact ms_ht_tk L _ h
/-- what a STOP leaves behind -/
def hres (ks : List Nat) (c I : Nat) (H : List Nat × Nat × Nat) : Prop :=
  (∀ e, H.2.1.testBit e = true → I.testBit e = true) ∧ (∀ q, H.2.2.testBit q = true → c.testBit q = true) ∧
  (∀ e, H.2.1.testBit e = true → H.2.2.testBit (H.1.getD e 0) = true) ∧
  (∀ q, H.2.2.testBit q = true → ∃ e, H.2.1.testBit e = true ∧ H.1.getD e 0 = q) ∧
  (∀ e e', e ≠ e' → H.2.1.testBit e = true → H.2.1.testBit e' = true → H.1.getD e 0 = H.1.getD e' 0 → ks.getD e 0 = 4 ∨ ks.getD e' 0 = 4)
theorem ht_res {ks pcs od ps : List Nat} {c I n : Nat} (hN : od.Nodup) (hm : ∀ e, e ∈ od ↔ e < n) (hl : ps.length = n) (h64 : I < 64) (hI : ∀ e, I.testBit e = true → e < n) : hres ks c I (ms_ht ks pcs c od (ps, I, 0)) := by
  have h0 : hinv ks od (ps, I, 0) := by
    refine ⟨fun e a d => absurd ((hm e).mpr (hI e d)) a, fun q hq => ?_, fun e e' a _ _ d => absurd ((hm e).mpr (hI e d)) a⟩
    have hq' : (0 : Nat).testBit q = true := hq
    rw [Nat.zero_testBit] at hq'
    cases hq'
  obtain ⟨h1, h2, h3⟩ := hinv_ht (ks := ks) (pcs := pcs) (c := c) od (ps, I, 0) hN (fun i hi => by show i < ps.length; rw [hl]; exact (hm i).mp hi) h64 h0
  refine ⟨fun e he => ms_ht_in (s := (ps, I, 0)) he, ms_ht_tk od (ps, I, 0) (fun q hq => ?_), fun e d => h1 e List.not_mem_nil d, fun q hq => ?_, fun e e' ne d d' f => h3 e e' List.not_mem_nil List.not_mem_nil ne d d' f⟩
  · have hq' : (0 : Nat).testBit q = true := hq
    rw [Nat.zero_testBit] at hq'
    cases hq'
  · obtain ⟨e, -, a, b⟩ := h2 q hq
    exact ⟨e, a, b⟩
theorem asd_res {s : cS} {m : mS} (h : Rel s m) {n c : Nat} : hres s.mn.1 c s.nw.2.1 (asd s.mn s.nw n c) :=
  ht_res h.mis.2.2.2.1 h.mis.2.2.2.2.1 (by rw [ms_play_len]; exact h.gnw.1.1.1) h.gnw.1.1.2.2.1 h.gnw.1.2.1
/-- PLACES of those of a set, as bits -/
def um (f : Nat → Nat) (I : Nat) : Nat → Nat
  | 0 => 0
  | k + 1 => if I.testBit k then um f I k ||| 2 ^ f k else um f I k
theorem um_bit {f : Nat → Nat} {I q : Nat} : ∀ {k : Nat}, (um f I k).testBit q = true ↔ ∃ e, e < k ∧ I.testBit e = true ∧ f e = q
  | 0 => by
    show (0 : Nat).testBit q = true ↔ _
    rw [Nat.zero_testBit]
    exact ⟨fun h => (Bool.false_ne_true h).elim, fun ⟨e, h, _⟩ => absurd h (Nat.not_lt_zero e)⟩
  | k + 1 => by
    have ih := um_bit (f := f) (I := I) (q := q) (k := k)
    unfold um
    cases hb : I.testBit k with
    | true =>
      rw [if_pos rfl, Nat.testBit_or, Nat.testBit_two_pow, Bool.or_eq_true, ih, decide_eq_true_iff]
      constructor
      · rintro (⟨e, a, b, d⟩ | g)
        · exact ⟨e, by omega, b, d⟩
        · exact ⟨k, by omega, hb, g⟩
      · rintro ⟨e, a, b, d⟩
        by_cases g : e = k
        · subst g; exact Or.inr d
        · exact Or.inl ⟨e, by omega, b, d⟩
    | false =>
      rw [if_neg (by simp), ih]
      constructor
      · rintro ⟨e, a, b, d⟩; exact ⟨e, by omega, b, d⟩
      · rintro ⟨e, a, b, d⟩
        have g : e ≠ k := fun g => by rw [g, hb] at b; cases b
        exact ⟨e, by omega, b, d⟩
theorem um_lt {f : Nat → Nat} {I : Nat} (hf : ∀ e, f e < 8) : ∀ k, um f I k < 256
  | 0 => by show 0 < 256; omega
  | k + 1 => by
    unfold um
    split
    · exact or_lt (n := 8) (um_lt hf k) (pow_lt (hf k))
    · exact um_lt hf k
theorem pop_or1 : ∀ x, x < 256 → ∀ q, q < 8 → ms_pop (x ||| 2 ^ q) ≤ ms_pop x + 1 := by decide +kernel
def cnt (I k : Nat) : Nat := ((List.range k).filter (fun i => I.testBit i)).length
theorem cnt_s (I k : Nat) : cnt I (k + 1) = cnt I k + bz (I.testBit k) := by
  unfold cnt
  rw [List.range_succ, List.filter_append, List.length_append]
  congr 1
  cases h : I.testBit k <;> simp [h, bz]
theorem um_pop {f : Nat → Nat} {I : Nat} (hf : ∀ e, f e < 8) : ∀ k, ms_pop (um f I k) ≤ cnt I k
  | 0 => by show ms_pop 0 ≤ _; rw [show ms_pop 0 = 0 by decide +kernel]; exact Nat.zero_le _
  | k + 1 => by
    have ih := um_pop (I := I) hf k
    rw [cnt_s]
    unfold um
    cases hb : I.testBit k with
    | true =>
      rw [if_pos rfl]
      have := pop_or1 (um f I k) (um_lt hf k) (f k) (hf k)
      show _ ≤ cnt I k + 1
      omega
    | false =>
      rw [if_neg (by simp)]
      exact ih
theorem getD_lt {ps : List Nat} {n : Nat} (h : ∀ j, j < n → ps.getD j 0 < 8) (hl : ps.length = n) (e : Nat) : ps.getD e 0 < 8 := by
  by_cases g : e < n
  · exact h e g
  · rw [List.getD_eq_getElem?_getD, List.getElem?_eq_none (by omega)]
    show 0 < 8
    omega
theorem tk_um {ks : List Nat} {c I n k : Nat} {H : List Nat × Nat × Nat} (h : hres ks c I H) (hn : ∀ e, H.2.1.testBit e = true → e < k) : H.2.2 = um (fun e => H.1.getD e 0) H.2.1 k := by
  obtain ⟨h1, h2, h3, h4, h5⟩ := h
  refine Nat.eq_of_testBit_eq fun q => ?_
  have key : H.2.2.testBit q = true ↔ (um (fun e => H.1.getD e 0) H.2.1 k).testBit q = true := by
    rw [um_bit]
    constructor
    · intro g
      obtain ⟨e, a, b⟩ := h4 q g
      exact ⟨e, hn e a, a, b⟩
    · rintro ⟨e, -, a, b⟩
      rw [← b]
      exact h3 e a
  cases g : H.2.2.testBit q
  · cases g2 : (um (fun e => H.1.getD e 0) H.2.1 k).testBit q
    · rfl
    · rw [key.mpr g2] at g; cases g
  · rw [key.mp g]
theorem pop_tk {ks : List Nat} {c I n : Nat} {H : List Nat × Nat × Nat} (h : hres ks c I H) (hw : rwf n H.1 H.2.1 c) : ms_pop H.2.2 ≤ ms_pop H.2.1 := by
  have hf := getD_lt hw.2.1 hw.1
  rw [tk_um (n := n) h (k := 8) (fun e he => by have := bit64 hw.2.2.1 he; omega)]
  exact um_pop hf 8
theorem zero_of {x : Nat} (h : ∀ q, x.testBit q = true → False) : x = 0 := Nat.eq_of_testBit_eq fun q => by
  rw [Nat.zero_testBit]
  cases g : x.testBit q
  · rfl
  · exact (h q g).elim
theorem some_of {x : Nat} (h : x ≠ 0) : ∃ q, x.testBit q = true := Classical.byContradiction fun g => h (zero_of fun q hq => g ⟨q, hq⟩)
theorem sit0 {ks : List Nat} {c I : Nat} {H : List Nat × Nat × Nat} (h : hres ks c I H) : H.2.1 = 0 ↔ H.2.2 = 0 := by
  obtain ⟨h1, h2, h3, h4, h5⟩ := h
  constructor
  · intro g
    refine zero_of fun q hq => ?_
    obtain ⟨e, a, -⟩ := h4 q hq
    rw [g, Nat.zero_testBit] at a
    cases a
  · intro g
    refine zero_of fun e he => ?_
    have := h3 e he
    rw [g, Nat.zero_testBit] at this
    cases this
theorem nd_0 {a b : Nat} (ha : a < 2 ^ 31) (h : ∀ q, a.testBit q = true → b.testBit q = true) : nd a b = 0 := by
  refine zero_of fun q hq => ?_
  have g0 : a.testBit q = true := by unfold nd at hq; rw [Nat.testBit_and] at hq; simp at hq; exact hq.1
  have hq31 : q < 31 := Classical.byContradiction fun g => by
    rw [Nat.testBit_lt_two_pow (Nat.lt_of_lt_of_le ha (Nat.pow_le_pow_right (by omega) (by omega)))] at g0
    cases g0
  rw [nd_bit (by omega), h q g0] at hq
  simp at hq
theorem nd_sub {a b q : Nat} (ha : a < 2 ^ 31) (h : nd a b = 0) (hq : a.testBit q = true) : b.testBit q = true := by
  have hq31 : q < 31 := Classical.byContradiction fun g => by
    rw [Nat.testBit_lt_two_pow (Nat.lt_of_lt_of_le ha (Nat.pow_le_pow_right (by omega) (by omega)))] at hq
    cases hq
  have := nd_bit (a := a) (b := b) (i := q) (by omega)
  rw [h, Nat.zero_testBit, hq] at this
  simpa using this
theorem pop_nd : ∀ c, c < 256 → ∀ q, q < 8 → c.testBit q = true → ms_pop (nd c (2 ^ q)) = ms_pop c - 1 ∧ nd c (2 ^ q) = c - 2 ^ q := by decide +kernel
theorem pop_pos : ∀ c, c < 256 → c ≠ 0 → 0 < ms_pop c := by decide +kernel
theorem pop_0 : ∀ c, c < 256 → ms_pop c = 0 → c = 0 := by decide +kernel
theorem pop_nd0 : ∀ c, c < 256 → 1 < ms_pop c → ∀ q, q < 8 → nd c (2 ^ q) ≠ 0 := by decide +kernel
theorem ndc_sub {c d q : Nat} (h : (nd c d).testBit q = true) : c.testBit q = true := by unfold nd at h; rw [Nat.testBit_and] at h; simp at h; exact h.1
