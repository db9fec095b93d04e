/-! a CABINET's TEXT, read as it is told -/
theorem ins_mem {cu eo : List Nat} {c e : Nat} : e ∈ ms_ins cu c eo ↔ e ∈ eo ∨ e = eo.length := by
  unfold ms_ins
  generalize ms_rank cu c eo eo.length = R
  have h : e ∈ eo ↔ e ∈ eo.take R ∨ e ∈ eo.drop R := by
    conv => lhs; rw [← List.take_append_drop R eo]
    exact List.mem_append
  rw [List.mem_append, List.mem_append, List.mem_singleton, h]
  constructor
  · rintro ((a | a) | a)
    · exact Or.inl (Or.inl a)
    · exact Or.inr a
    · exact Or.inl (Or.inr a)
  · rintro ((a | a) | a)
    · exact Or.inl (Or.inl a)
    · exact Or.inr a
    · exact Or.inl (Or.inr a)
theorem ins_nodup {cu eo : List Nat} {c : Nat} (h : eo.Nodup) (hl : ∀ e, e ∈ eo → e < eo.length) : (ms_ins cu c eo).Nodup := by
  unfold ms_ins
  generalize ms_rank cu c eo eo.length = R
  have h2 : (eo.take R ++ eo.drop R).Nodup := by rw [List.take_append_drop]; exact h
  obtain ⟨a, b, d⟩ := List.nodup_append.mp h2
  rw [List.append_assoc, List.nodup_append]
  refine ⟨a, ?_, fun x hx y hy => ?_⟩
  · rw [List.singleton_append, List.nodup_cons]
    exact ⟨fun g => absurd (hl _ (List.mem_of_mem_drop g)) (Nat.lt_irrefl _), b⟩
  · rcases List.mem_append.mp hy with g | g
    · rw [List.mem_singleton.mp g]
      have := hl x (List.mem_of_mem_take hx)
      omega
    · exact d x hx y g
theorem sk_no {T : Nat → Int32} {i : Nat} (h : ¬ T i = nI 32) : ∀ z, ms_sk T z i = i
  | 0 => rfl
  | z + 1 => by unfold ms_sk; rw [if_neg h]
theorem sk_bl {T : Nat → Int32} : ∀ {b z i : Nat}, (∀ j, i ≤ j → j < i + b → T j = nI 32) → b ≤ z → ms_sk T z i = ms_sk T (z - b) (i + b)
  | 0, z, i, _, _ => rfl
  | b + 1, 0, i, _, hz => absurd hz (by omega)
  | b + 1, z + 1, i, h, hz => by
    unfold ms_sk
    rw [if_pos (h i (by omega) (by omega)), sk_bl (b := b) (fun j h1 h2 => h j (by omega) (by omega)) (by omega), show z + 1 - (b + 1) = z - b by omega, show i + (b + 1) = i + 1 + b by omega]
    cases hzb : z - b with
    | zero => rfl
    | succ y => rfl
def rG (T : Nat → Int32) (i at0 : Nat) (W : ms_RM) (V : ms_RR) : Option Nat × Nat × ms_RM × ms_RR :=
  if i = 0 then ms_rl T 60 7 (ms_sk T (60 - at0) at0) W V else if ms_sk T (60 - at0) at0 < 60 then ms_rl T 60 (7 - i) (ms_sk T (60 - at0) at0) W V else (none, ms_sk T (60 - at0) at0, W, V)
theorem rG_bl {T : Nat → Int32} {i at0 b : Nat} {W : ms_RM} {V : ms_RR} (h : ∀ j, at0 ≤ j → j < at0 + b → T j = nI 32) (hb : at0 + b ≤ 60) : rG T i at0 W V = rG T i (at0 + b) W V := by
  have e := sk_bl (z := 60 - at0) h (by omega)
  rw [show 60 - at0 - b = 60 - (at0 + b) by omega] at e
  unfold rG
  rw [e]
theorem rG_end {T : Nat → Int32} {i at0 : Nat} {W : ms_RM} {V : ms_RR} (hi : 1 ≤ i) (h : ∀ j, at0 ≤ j → j < 60 → T j = nI 32) (hb : at0 ≤ 60) : rG T i at0 W V = (none, 60, W, V) := by
  rw [rG_bl (b := 60 - at0) (fun j h1 h2 => h j h1 (by omega)) (by omega), show at0 + (60 - at0) = 60 by omega]
  unfold rG
  rw [if_neg (by omega), show 60 - 60 = 0 by omega]
  rfl
theorem ltr_kd : ∀ k, k < 6 → ms_kd (ltr k) = some k ∧ ¬ ltr k = nI 32 ∧ dg (ltr k) = none ∧ (ltr k).toInt8.toInt32 = ltr k := by decide +kernel
theorem fig_at {T : Nat → Int32} {i lo hi d : Nat} (hi0 : i < 60) (h : T i = nI (48 + d)) (h1 : lo ≤ d) (h2 : d ≤ hi) (h9 : d ≤ 9) : ms_fig T 60 i lo hi = some d := by
  unfold ms_fig
  rw [if_pos hi0, h, dg_nI h9]
  dsimp only
  rw [if_pos ⟨h1, h2⟩]
theorem rG_min {T : Nat → Int32} {i at0 k p q c : Nat} {W : ms_RM} {V : ms_RR} (hi : i < 6) (hb : at0 + 4 ≤ 60) (hW : W.1.length = i) (hk : k < 6) (h0 : T at0 = ltr k) (h1 : T (at0 + 1) = nI (48 + p)) (hp : p ≤ 7) (h2 : T (at0 + 2) = nI (48 + q)) (hq : 1 ≤ q) (hq2 : q ≤ 3) (h3 : T (at0 + 3) = nI (48 + c)) (hc : c ≤ 9) : rG T i at0 W V = rG T (i + 1) (at0 + 4) (ms_st (k, p, q, c) W) (ms_sr (k, p, q, c) i V) := by
  obtain ⟨l1, l2, -, -⟩ := ltr_kd k hk
  have sk : ms_sk T (60 - at0) at0 = at0 := sk_no (by rw [h0]; exact l2) _
  have e1 : rG T i at0 W V = ms_rl T 60 (7 - i) at0 W V := by
    unfold rG
    rw [sk]
    split
    · next g => rw [g]
    · rw [if_pos (by omega)]
  have hrm : ms_rm T 60 at0 W.1.length = (some (k, p, q, c), at0 + 4) := by
    unfold ms_rm
    rw [if_pos (by omega), h0, l1]
    dsimp only
    rw [if_neg (by omega), fig_at (by omega) h1 (by omega) hp (by omega)]
    dsimp only
    rw [fig_at (by omega) h2 hq hq2 (by omega)]
    dsimp only
    rw [fig_at (by omega) h3 (by omega) hc hc]
  rw [e1, show 7 - i = (6 - i) + 1 by omega]
  unfold ms_rl
  rw [hrm]
  dsimp only
  rw [hW]
  unfold rG
  rw [if_neg (show ¬ i + 1 = 0 by omega), show 7 - (i + 1) = 6 - i by omega]
/-- MINISTERS read so far -/
def rI (i ch : Nat) (Z T : List Nat) (W : ms_RM) (V : ms_RR) : Prop :=
  W.1.length = i ∧ rdw W V ∧ (∀ j, j < i → W.1.getD j 0 = Z.getD (1 + j) 0 ∧ W.2.1.getD j 0 = Z.getD (7 + j) 0 ∧ V.1.getD j 0 = T.getD j 0 ∧ W.1.getD j 0 < 6 ∧ 1 ≤ W.2.1.getD j 0 ∧ W.2.1.getD j 0 < 4 ∧ V.1.getD j 0 < 8) ∧ W.2.2.2.1.Nodup ∧ (∀ e, e ∈ W.2.2.2.1 ↔ e < i) ∧ V.2.1 = 2 ^ i - 1 ∧ V.2.2.1 = ch ∧ V.2.2.2.2.1 = 0 ∧ V.2.2.2.2.2.1 = 0
theorem app_at {l : List Nat} {v j i : Nat} (h : l.length = i) : (l ++ [v]).getD j 0 = if j = i then v else l.getD j 0 := by
  rw [getD_app]
  by_cases e : j < l.length
  · rw [if_pos e, if_neg (by omega)]
  · rw [if_neg e]
    by_cases e2 : j = i
    · rw [if_pos e2, show j - l.length = 0 by omega]; rfl
    · rw [if_neg e2, List.getD_eq_getElem?_getD, List.getElem?_eq_none (by rw [List.length_singleton]; omega), List.getD_eq_getElem?_getD, List.getElem?_eq_none (by omega)]
theorem pow_or1 : ∀ i, i < 6 → (2 ^ i - 1) ||| 2 ^ i = 2 ^ (i + 1) - 1 := by decide
theorem rI_s {i ch k p q c : Nat} {Z Z' T T' : List Nat} {W : ms_RM} {V : ms_RR} (h : rI i ch Z T W V) (hi : i < 6) (hk : k < 6) (hp : p ≤ 7) (hq : 1 ≤ q) (hq2 : q ≤ 3) (hc : c ≤ 9) (e1 : ∀ j, j < i → Z'.getD (1 + j) 0 = Z.getD (1 + j) 0) (e2 : ∀ j, j < i → Z'.getD (7 + j) 0 = Z.getD (7 + j) 0) (e3 : ∀ j, j < i → T'.getD j 0 = T.getD j 0) (f1 : Z'.getD (1 + i) 0 = k) (f2 : Z'.getD (7 + i) 0 = q) (f3 : T'.getD i 0 = p) : rI (i + 1) ch Z' T' (ms_st (k, p, q, c) W) (ms_sr (k, p, q, c) i V) := by
  obtain ⟨h1, h2, h3, h4, h5, h6, h7, h8, h9⟩ := h
  have w := ms_step_wf (m := (k, p, q, c)) h2 ⟨hk, by show c < 10; omega⟩ (by omega)
  rw [h1] at w
  have wl : W.2.1.length = i := by rw [h2.1]; exact h1
  have vl : V.1.length = i := by rw [h2.2.2.2.1]; exact h1
  have ol : W.2.2.2.1.length = i := by rw [h2.2.2.1]; exact h1
  refine ⟨?_, w, fun j hj => ?_, ?_, fun e => ?_, ?_, h7, h8, h9⟩
  · show (W.1 ++ [k]).length = i + 1
    rw [List.length_append, h1]
    rfl
  · show (W.1 ++ [k]).getD j 0 = _ ∧ (W.2.1 ++ [q]).getD j 0 = _ ∧ (V.1 ++ [p]).getD j 0 = _ ∧ (W.1 ++ [k]).getD j 0 < 6 ∧ 1 ≤ (W.2.1 ++ [q]).getD j 0 ∧ (W.2.1 ++ [q]).getD j 0 < 4 ∧ (V.1 ++ [p]).getD j 0 < 8
    rw [app_at h1, app_at wl, app_at vl]
    by_cases e : j = i
    · subst e
      simp only [if_pos]
      rw [f1, f2, f3]
      exact ⟨rfl, rfl, rfl, hk, hq, by omega, by omega⟩
    · simp only [if_neg e]
      obtain ⟨a1, a2, a3, a4⟩ := h3 j (by omega)
      rw [e1 j (by omega), e2 j (by omega), e3 j (by omega)]
      exact ⟨a1, a2, a3, a4⟩
  · show (ms_ins W.2.2.1 (ms_eff k c) W.2.2.2.1).Nodup
    exact ins_nodup h4 (fun e he => by rw [ol]; exact (h5 e).mp he)
  · show e ∈ ms_ins W.2.2.1 (ms_eff k c) W.2.2.2.1 ↔ e < i + 1
    rw [ins_mem, h5, ol]
    omega
  · show V.2.1 ||| 2 ^ i = 2 ^ (i + 1) - 1
    rw [h6]
    exact pow_or1 i hi
/-! the CHAIRS -/
theorem rC_0 {T : Nat → Int32} {a : Nat} (h : ∀ j, j < a → T j = nI 32) (ha : T a = 114) (hb : a < 60) : ms_rch T 60 (ms_sk T 60 0) = ms_rc T 60 9 (a + 1) 0 0 0 := by
  have e := sk_bl (b := a) (z := 60) (i := 0) (fun j _ h2 => h j (by omega)) (by omega)
  rw [Nat.zero_add, sk_no (T := T) (i := a) (by rw [ha]; decide)] at e
  rw [e]
  unfold ms_rch
  rw [if_pos ⟨hb, ha.symm⟩]
theorem rC_s {T : Nat → Int32} {at0 k l1 cc p : Nat} (hk : k < 7) (hp : p ≤ 7) (hl : l1 ≤ p) (hb : at0 < 60) (h : T at0 = nI (48 + p)) : ms_rc T 60 (9 - k) at0 k l1 cc = ms_rc T 60 (9 - (k + 1)) (at0 + 1) (k + 1) (p + 1) (cc ||| 2 ^ p) := by
  rw [show 9 - k = (9 - (k + 1)) + 1 by omega]
  conv => lhs; unfold ms_rc
  rw [if_pos hb, h, dg_nI (by omega)]
  dsimp only
  rw [if_neg (by omega)]
theorem rC_e {T : Nat → Int32} {at0 k l1 cc : Nat} (hk : 1 ≤ k) (hk7 : k ≤ 7) (hb : at0 < 60) (h : dg (T at0) = none) : ms_rc T 60 (9 - k) at0 k l1 cc = (true, at0, cc) := by
  rw [show 9 - k = (8 - k) + 1 by omega]
  unfold ms_rc
  rw [if_pos hb, h]
  dsimp only
  rw [decide_eq_true (by omega)]
def agr (A : List Int32) (T : Nat → Int32) (at0 : Nat) : Prop := ∀ j, j < at0 → T j = ig A j
def blk (A : List Int32) (at0 : Nat) : Prop := ∀ j, at0 ≤ j → j < 60 → ig A j = nI 32
theorem dg_32 : dg (nI 32) = none := by decide +kernel
theorem dig_id : ∀ p, p < 10 → (nI (48 + p)).toInt8.toInt32 = nI (48 + p) := by decide +kernel
theorem chr_lt : ∀ ch, ch < 255 → ∀ p, p < 8 → ch.testBit p = true → cnt ch p < 7 := by decide +kernel
theorem chr_8 : ∀ ch, ch < 255 → cnt ch 8 ≤ 7 ∧ (0 < ch → 1 ≤ cnt ch 8) ∧ um (fun e => e) ch 8 = ch := by decide +kernel
/-- CHAIRS told below a PLACE -/
def tC (A : List Int32) (ch a p at0 : Nat) : Prop := A.length = 60 ∧ blk A at0 ∧ at0 = a + 1 + cnt ch p ∧ ∃ l1, l1 ≤ p ∧ ∀ T, agr A T at0 → ms_rch T 60 (ms_sk T 60 0) = ms_rc T 60 (9 - cnt ch p) at0 (cnt ch p) l1 (um (fun e => e) ch p)
theorem tC_0 {A : List Int32} {ch a : Nat} (hA : A.length = 60) (hb : blk A 0) (ha : a ≤ 2) : tC (A.set a 114) ch a 0 (a + 1) := by
  refine ⟨by rw [List.length_set]; exact hA, fun j h1 h2 => ?_, rfl, 0, Nat.le_refl _, fun T hT => ?_⟩
  · rw [ig_set (by omega), if_neg (by omega)]
    exact hb j (by omega) h2
  · refine rC_0 (fun j hj => ?_) ?_ (by omega)
    · rw [hT j (by omega), ig_set (by omega), if_neg (by omega)]
      exact hb j (by omega) (by omega)
    · rw [hT a (by omega), ig_set (by omega), if_pos rfl]
theorem tC_n {A : List Int32} {ch a p at0 : Nat} (h : tC A ch a p at0) (hb : ch.testBit p = false) : tC A ch a (p + 1) at0 := by
  obtain ⟨h1, h2, h3, l1, h4, h5⟩ := h
  have e : cnt ch (p + 1) = cnt ch p := by rw [cnt_s, hb]; rfl
  have e2 : um (fun e => e) ch (p + 1) = um (fun e => e) ch p := by
    show (if ch.testBit p = true then _ else _) = _
    rw [hb]
    rfl
  refine ⟨h1, h2, by rw [e]; exact h3, l1, by omega, fun T hT => ?_⟩
  rw [e, e2]
  exact h5 T hT
theorem tC_y {A : List Int32} {ch a p at0 : Nat} (h : tC A ch a p at0) (hc : ch < 255) (hp : p < 8) (ha : a ≤ 2) (hb : ch.testBit p = true) : at0 < 60 ∧ ig A at0 = nI 32 ∧ tC (A.set at0 (nI (48 + p))) ch a (p + 1) (at0 + 1) := by
  obtain ⟨h1, h2, h3, l1, h4, h5⟩ := h
  have hk := chr_lt ch hc p hp hb
  have e : cnt ch (p + 1) = cnt ch p + 1 := by rw [cnt_s, hb]; rfl
  have e2 : um (fun e => e) ch (p + 1) = um (fun e => e) ch p ||| 2 ^ p := by
    show (if ch.testBit p = true then _ else _) = _
    rw [hb]
    rfl
  have h60 : at0 < 60 := by omega
  refine ⟨h60, h2 at0 (Nat.le_refl _) h60, by rw [List.length_set]; exact h1, fun j g1 g2 => ?_, by omega, p + 1, Nat.le_refl _, fun T hT => ?_⟩
  · rw [ig_set (by omega), if_neg (by omega)]
    exact h2 j (by omega) g2
  · have hT' : agr A T at0 := fun j hj => by rw [hT j (by omega), ig_set (by omega), if_neg (by omega)]
    rw [h5 T hT', e, e2]
    exact rC_s hk (by omega) h4 h60 (by rw [hT at0 (by omega), ig_set (by omega), if_pos rfl])
/-- MINISTERS told so far -/
def tM (A : List Int32) (ch i at0 : Nat) (Z T : List Nat) : Prop := A.length = 60 ∧ blk A at0 ∧ at0 ≤ 12 + 6 * i ∧ ∀ rm rr, rdv rm rr → rr.2.2.2.2.1 = 0 → rr.2.2.2.2.2.1 = 0 → ∃ W V, rI i ch Z T W V ∧ ∀ F, agr A F at0 → dg (F at0) = none → ms_rd F 60 rm rr = rG F i at0 W V
theorem tM_0 {A : List Int32} {ch a at0 b : Nat} {Z T : List Nat} (h : tC A ch a 8 at0) (ha : a ≤ 2) (hc0 : 0 < ch) (hc : ch < 255) (hb : b ≤ 2) : tM A ch 0 (at0 + b) Z T := by
  obtain ⟨h1, h2, h3, l1, h4, h5⟩ := h
  obtain ⟨c1, c2, c3⟩ := chr_8 ch hc
  have c2 := c2 hc0
  refine ⟨h1, fun j g1 g2 => h2 j (by omega) g2, by omega, fun rm rr hv g1 g2 => ?_⟩
  have hz := rdw_z ch hv
  refine ⟨ms_rz rm, ms_gz rr ch, ⟨rfl, hz, fun j hj => absurd hj (by omega), List.nodup_nil, fun e => ⟨fun g => absurd g List.not_mem_nil, fun g => absurd g (Nat.not_lt_zero e)⟩, rfl, rfl, g1, g2⟩, fun F hF hd => ?_⟩
  have bl : ∀ j, at0 ≤ j → j < at0 + b → F j = nI 32 := fun j g1 g2 => by rw [hF j g2]; exact h2 j g1 (by omega)
  have hd' : dg (F at0) = none := by
    by_cases e : b = 0
    · subst e; exact hd
    · rw [bl at0 (Nat.le_refl _) (by omega)]; exact dg_32
  have e1 := h5 F (fun j hj => hF j (by omega))
  rw [rC_e c2 c1 (by omega) hd', c3] at e1
  rw [← rG_bl bl (by omega)]
  unfold ms_rd
  rw [e1]
  rfl
theorem tM_s {A : List Int32} {ch i at0 k p q c b : Nat} {Z Z' T T' : List Nat} (h : tM A ch i at0 Z T) (hi : i < 6) (hk : k < 6) (hp : p ≤ 7) (hq : 1 ≤ q) (hq2 : q ≤ 3) (hc : c ≤ 9) (hb : b ≤ 2) (e1 : ∀ j, j < i → Z'.getD (1 + j) 0 = Z.getD (1 + j) 0) (e2 : ∀ j, j < i → Z'.getD (7 + j) 0 = Z.getD (7 + j) 0) (e3 : ∀ j, j < i → T'.getD j 0 = T.getD j 0) (f1 : Z'.getD (1 + i) 0 = k) (f2 : Z'.getD (7 + i) 0 = q) (f3 : T'.getD i 0 = p) :
    tM ((((A.set at0 (ltr k)).set (at0 + 1) (nI (48 + p))).set (at0 + 2) (nI (48 + q))).set (at0 + 3) (nI (48 + c))) ch (i + 1) (at0 + (4 + b)) Z' T' := by
  obtain ⟨h1, h2, h3, h4⟩ := h
  have a0 : ∀ j, ig ((((A.set at0 (ltr k)).set (at0 + 1) (nI (48 + p))).set (at0 + 2) (nI (48 + q))).set (at0 + 3) (nI (48 + c))) j = if j = at0 + 3 then nI (48 + c) else if j = at0 + 2 then nI (48 + q) else if j = at0 + 1 then nI (48 + p) else if j = at0 then ltr k else ig A j := by
    intro j
    rw [ig_set (by simp only [List.length_set]; omega), ig_set (by simp only [List.length_set]; omega), ig_set (by simp only [List.length_set]; omega), ig_set (by omega)]
  obtain ⟨l1, l2, l3, l4⟩ := ltr_kd k hk
  refine ⟨by simp only [List.length_set]; exact h1, fun j g1 g2 => ?_, by omega, fun rm rr hv g1 g2 => ?_⟩
  · rw [a0, if_neg (by omega), if_neg (by omega), if_neg (by omega), if_neg (by omega)]
    exact h2 j (by omega) g2
  · obtain ⟨W, V, r1, r2⟩ := h4 rm rr hv g1 g2
    refine ⟨_, _, rI_s r1 hi hk hp hq hq2 hc e1 e2 e3 f1 f2 f3, fun F hF hd => ?_⟩
    have t0 : F at0 = ltr k := by rw [hF at0 (by omega), a0, if_neg (by omega), if_neg (by omega), if_neg (by omega), if_pos rfl]
    have t1 : F (at0 + 1) = nI (48 + p) := by rw [hF (at0 + 1) (by omega), a0, if_neg (by omega), if_neg (by omega), if_pos rfl]
    have t2 : F (at0 + 2) = nI (48 + q) := by rw [hF (at0 + 2) (by omega), a0, if_neg (by omega), if_pos rfl]
    have t3 : F (at0 + 3) = nI (48 + c) := by rw [hF (at0 + 3) (by omega), a0, if_pos rfl]
    rw [r2 F (fun j hj => by rw [hF j (by omega), a0, if_neg (by omega), if_neg (by omega), if_neg (by omega), if_neg (by omega)]) (by rw [t0]; exact l3)]
    rw [rG_min hi (by omega) r1.1 hk t0 t1 hp t2 hq hq2 t3 hc]
    rw [rG_bl (b := b) (fun j g1 g2 => by rw [hF j (by omega), a0, if_neg (by omega), if_neg (by omega), if_neg (by omega), if_neg (by omega)]; exact h2 j (by omega) (by omega)) (by omega), Nat.add_assoc]
theorem tM_e {A : List Int32} {ch i at0 : Nat} {Z T : List Nat} {rm : ms_RM} {rr : ms_RR} (h : tM A ch i at0 Z T) (hi : 1 ≤ i) (hi6 : i ≤ 6) (hv : rdv rm rr) (g1 : rr.2.2.2.2.1 = 0) (g2 : rr.2.2.2.2.2.1 = 0) : ∃ W V, rI i ch Z T W V ∧ ms_rd (ig A) 60 rm rr = (none, 60, W, V) := by
  obtain ⟨h1, h2, h3, h4⟩ := h
  obtain ⟨W, V, r1, r2⟩ := h4 rm rr hv g1 g2
  refine ⟨W, V, r1, ?_⟩
  rw [r2 (ig A) (fun j _ => rfl) (by rw [h2 at0 (Nat.le_refl _) (by omega)]; exact dg_32)]
  exact rG_end hi (fun j a b => h2 j a b) (by omega)
