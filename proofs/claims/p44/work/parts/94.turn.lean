/-! a turn: numbers -/
theorem sv_of {a b : cS} {m : mS} (ha : Rel a m) (hb : Rel b m) (e1 : b.mn = a.mn) (e2 : b.ru = a.ru) (e3 : b.dd.1 = a.dd.1) (e4 : b.k0 = a.k0) (e5 : b.k1 = a.k1) (e6 : b.k2 = a.k2) (e7 : b.tx = a.tx) : sv a b := by
  have n1 := ha.now
  have n2 := hb.now
  rw [e1, e2, e3] at n2
  exact ⟨e1, e2, eqg_t n2 (eqg_s n1), e3, e4, e5, e6, e7⟩
/-- a DEED that may be done -/
def lgl (s : cS) (n d : Nat) : Prop := d = 0 ∨ d = 1 ∨ (∃ q, q < 8 ∧ d = 2 + q ∧ 1 < ms_pop s.nw.2.2.1) ∨ ∃ q, q < n ∧ d = 10 + q
theorem lgl_ok {s : cS} {n d : Nat} (h : lgl s n d) : d < 10 ∨ d - 10 < n := by
  rcases h with h | h | ⟨q, h1, h2, h3⟩ | ⟨q, h1, h2⟩
  · exact Or.inl (by omega)
  · exact Or.inl (by omega)
  · exact Or.inl (by omega)
  · exact Or.inr (by omega)
theorem ug_ch {ks pcs od : List Nat} {d : Nat} {g : ms_G} : (ms_ug ks pcs od d g).2.2.1 = if 2 ≤ d ∧ d < 10 then nd g.2.2.1 (2 ^ (d - 2)) else g.2.2.1 := by
  obtain ⟨ps, i, c, t, b, s⟩ := g
  unfold ms_ug
  dsimp only
  by_cases h0 : d = 0
  · rw [if_pos h0, if_neg (by omega)]
  · rw [if_neg h0]
    by_cases h1 : d = 1
    · rw [if_pos h1, if_neg (by omega)]
    · rw [if_neg h1]
      by_cases h2 : d < 10
      · rw [if_pos h2, if_pos (by omega)]
      · rw [if_neg h2, if_neg (by omega)]
theorem act_ch {s : cS} {d : Nat} : (actS d s).nw.2.2.1 = if 2 ≤ d ∧ d < 10 then nd s.nw.2.2.1 (2 ^ (d - 2)) else s.nw.2.2.1 := ug_ch
theorem act_chs {s : cS} {d q : Nat} (h : (actS d s).nw.2.2.1.testBit q = true) : s.nw.2.2.1.testBit q = true := by
  rw [act_ch] at h
  split at h
  · exact ndc_sub h
  · exact h
theorem act_in {s : cS} {d q : Nat} (h : (actS d s).nw.2.1.testBit q = true) : s.nw.2.1.testBit q = true := ms_ug_in h
theorem act_ch0 {s : cS} {m : mS} {d : Nat} (h : Rel s m) (h0 : s.nw.2.2.1 ≠ 0) (hd : lgl s m.mc d) : (actS d s).nw.2.2.1 ≠ 0 := by
  have hc : s.nw.2.2.1 < 256 := h.gnw.1.1.2.2.2
  rw [act_ch]
  split
  · next g =>
    rcases hd with e | e | ⟨q, h1, h2, h3⟩ | ⟨q, h1, h2⟩
    · omega
    · omega
    · rw [h2, Nat.add_sub_cancel_left]
      exact pop_nd0 _ hc h3 q h1
    · omega
  · exact h0
theorem mlt_lgl {s : cS} {m : mS} {l : Nat} (h : Rel s m) (h0 : m.mc ≠ 0) : lgl s m.mc (mlt s m.mc l) := by
  have hc : s.nw.2.2.1 < 256 := h.gnw.1.1.2.2.2
  have hm := Nat.mod_lt l (show m.mc > 0 by omega)
  unfold mlt
  split
  · exact Or.inr (Or.inl rfl)
  · split
    · next g =>
      obtain ⟨q, hq8, hq, -⟩ := lc_more hc g.2
      rw [hq]
      exact Or.inr (Or.inr (Or.inl ⟨q, hq8, rfl, g.2⟩))
    · split
      · exact Or.inr (Or.inr (Or.inr ⟨_, hm, rfl⟩))
      · exact Or.inl rfl
/-- what LOTS leave as it was -/
theorem lot_k {mc : Nat} : ∀ {z l : Nat} {s : cS}, (lotS mc z l s).mn = s.mn ∧ (lotS mc z l s).ru = s.ru ∧ (lotS mc z l s).k0 = s.k0 ∧ (lotS mc z l s).k1 = s.k1 ∧ (lotS mc z l s).k2 = s.k2 ∧ (lotS mc z l s).tx = s.tx ∧ (lotS mc z l s).rw = s.rw ∧ ∃ ds, ds.length = z ∧ (lotS mc z l s).dd.1 = s.dd.1 ++ ds
  | 0, _, s => ⟨rfl, rfl, rfl, rfl, rfl, rfl, rfl, [], rfl, (List.append_nil _).symm⟩
  | z + 1, l, s => by
    obtain ⟨a1, a2, a3, a4, a5, a6, a7, ds, a8, a9⟩ := lot_k (mc := mc) (z := z) (l := lnx l) (s := actS (mlt s mc (lnx l)) s)
    refine ⟨a1, a2, a3, a4, a5, a6, a7, mlt s mc (lnx l) :: ds, by rw [List.length_cons, a8], ?_⟩
    have e : (lotS mc (z + 1) l s).dd.1 = (actS (mlt s mc (lnx l)) s).dd.1 ++ ds := a9
    rw [e]
    show (s.dd.1 ++ [mlt s mc (lnx l)]) ++ ds = _
    rw [List.append_assoc]
    rfl
theorem lot_1 {mc z l : Nat} {s : cS} : (lotS mc (z + 1) l s).dd.1.take (s.dd.1.length + 1) = s.dd.1 ++ [mlt s mc (lnx l)] := by
  obtain ⟨-, -, -, -, -, -, -, ds, a8, a9⟩ := lot_k (mc := mc) (z := z) (l := lnx l) (s := actS (mlt s mc (lnx l)) s)
  have e : (lotS mc (z + 1) l s).dd.1 = (s.dd.1 ++ [mlt s mc (lnx l)]) ++ ds := a9
  rw [e, List.take_append_of_le_length (by rw [List.length_append, List.length_singleton]; omega), List.take_of_length_le (by rw [List.length_append, List.length_singleton]; omega)]
theorem lot_in {mc q : Nat} : ∀ {z l : Nat} {s : cS}, (lotS mc z l s).nw.2.1.testBit q = true → s.nw.2.1.testBit q = true
  | 0, _, _, h => h
  | z + 1, l, s, h => act_in (lot_in (z := z) (l := lnx l) (s := actS (mlt s mc (lnx l)) s) h)
/-- the first of LOTS left, the others undone -/
theorem lot_un {s : cS} {m : mS} {z l : Nat} (h : Rel s m) (h0 : m.mc ≠ 0) (hl : s.dd.1.length + (z + 1) ≤ 40) : Rel (unS (s.dd.1.length + 1) (lotS m.mc (z + 1) l s)) m ∧ sv (actS (mlt s m.mc (lnx l)) s) (unS (s.dd.1.length + 1) (lotS m.mc (z + 1) l s)) ∧ (unS (s.dd.1.length + 1) (lotS m.mc (z + 1) l s)).rw = s.rw ∧ (lotS m.mc (z + 1) l s).dd.1.length = s.dd.1.length + (z + 1) := by
  have hF := lot_rel (l := l) (z := z + 1) h0 h rfl hl
  obtain ⟨a1, a2, a3, a4, a5, a6, a7, ds, a8, a9⟩ := lot_k (mc := m.mc) (z := z + 1) (l := l) (s := s)
  have hlen : (lotS m.mc (z + 1) l s).dd.1.length = s.dd.1.length + (z + 1) := by rw [a9, List.length_append, a8]
  have hU := rel_un (n := s.dd.1.length + 1) hF (by omega)
  have hA := rel_actS (d := mlt s m.mc (lnx l)) h (by omega) (mlt_ok h h0)
  exact ⟨hU, sv_of hA hU a1 a2 lot_1 a3 a4 a5 a6, a7, hlen⟩
/-- all undone again -/
theorem un_back {s s' : cS} {m : mS} {d : Nat} (h : Rel s m) (h' : Rel s' m) (hs : sv (actS d s) s') (hrw : s'.rw = s.rw) : Rel (unS s.dd.1.length s') m ∧ svr s (unS s.dd.1.length s') ∧ s'.dd.1.length = s.dd.1.length + 1 := by
  obtain ⟨a1, a2, a3, a4, a5, a6, a7, a8⟩ := hs
  have e : s'.dd.1 = s.dd.1 ++ [d] := a4
  have hl : s'.dd.1.length = s.dd.1.length + 1 := by rw [e, List.length_append]; rfl
  have hU := rel_un (n := s.dd.1.length) h' (by omega)
  refine ⟨hU, ⟨sv_of h hU a1 a2 ?_ a5 a6 a7 a8, hrw⟩, hl⟩
  show s'.dd.1.take s.dd.1.length = s.dd.1
  rw [e, List.take_left']
  rfl
/-- the turns' state -/
def tv (s : cS) (n : Nat) (Z T : List Nat) (c : Nat) : Prop :=
  Rel s n ∧ (1 ≤ n ∧ n ≤ 6) ∧ Z.length = 19 ∧ T.length = 10 ∧ Z.getD 0 0 = n ∧ (∀ e, e < n → Z.getD (1 + e) 0 = s.mn.1.getD e 0 ∧ Z.getD (7 + e) 0 = s.mn.2.1.getD e 0 ∧ T.getD e 0 = s.ru.1.getD e 0) ∧ s.ru.2.1 = 2 ^ n - 1 ∧ s.ru.2.2.1 = T.getD 7 0 ∧ (s.k0.1 = true ∧ s.k0.2.1 = [] ∧ s.k1.1 = false ∧ s.k2.1 = false) ∧ s.nw.2.2.1 ≠ 0 ∧ s.dd.1.length ≤ c
theorem tv_sv {s s' : cS} {n c : Nat} {Z T : List Nat} (h : tv s n Z T c) (hs : sv s s') (h' : Rel s' n) : tv s' n Z T (c + 1) := by
  obtain ⟨t1, t2, t3, t4, t5, t6, t7, t8, t9, t10, t11⟩ := h
  obtain ⟨a1, a2, a3, a4, a5, a6, a7, a8⟩ := id hs
  refine ⟨h', t2, t3, t4, t5, ?_, ?_, ?_, ?_, ?_, ?_⟩
  · rw [a1, a2]; exact t6
  · rw [a2]; exact t7
  · rw [a2]; exact t8
  · rw [a5, a6, a7]; exact t9
  · rw [sv_ch hs]; exact t10
  · rw [a4]; omega
theorem tv_ac {s s' : cS} {n c d : Nat} {Z T : List Nat} (h : tv s n Z T c) (hs : sv (actS d s) s') (hd : lgl s n d) (h' : Rel s' n) : tv s' n Z T (c + 1) := by
  obtain ⟨t1, t2, t3, t4, t5, t6, t7, t8, t9, t10, t11⟩ := h
  obtain ⟨a1, a2, a3, a4, a5, a6, a7, a8⟩ := id hs
  have e : s'.dd.1 = s.dd.1 ++ [d] := a4
  refine ⟨h', t2, t3, t4, t5, ?_, ?_, ?_, ?_, ?_, ?_⟩
  · rw [a1, a2]; exact t6
  · rw [a2]; exact t7
  · rw [a2]; exact t8
  · rw [a5, a6, a7]; exact t9
  · rw [sv_ch hs]; exact act_ch0 t1 t10 hd
  · rw [e, List.length_append, List.length_singleton]; omega
