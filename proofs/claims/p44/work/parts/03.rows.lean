/-! the heap's picture under a write, a making -/
theorem ax_get_lt {H : ax_H} {k : Nat} {c : ax_C} (h : ax_get H k = some c) : k < H.length := (List.getElem?_eq_some_iff.mp h).1
theorem ax_at.kept {X : ax_X} {a : Nat} {c : ax_C} {Hm H1 : Heap} (h : ax_at X a c Hm) (hq : H1[a]? = Hm[a]?) : ax_at X a c H1 := by
  unfold ax_at at h ⊢
  cases e : ax_ty c.1 with
  | some ty =>
    rw [e] at h
    obtain ⟨cell, h1, h2⟩ := h
    exact ⟨cell, by rw [hq]; exact h1, h2⟩
  | none =>
    rw [e] at h
    obtain ⟨r, h1, h2, h3⟩ := h
    exact ⟨r, h1, h2, h3.kept hq⟩
theorem ax_em_ne {X : ax_X} (hX : ax_ok X) {j k : Nat} (hk : 2 ≤ k) (h : j ≠ k) : ax_em X j ≠ ax_em X k := by
  have h1 := hX.2.1
  have h2 := hX.2.2.1
  unfold ax_em
  rw [if_neg (show ¬ k = 0 by omega), if_neg (show ¬ k = 1 by omega)]
  split
  · omega
  · split <;> omega
theorem ax_em_free {X : ax_X} {k : Nat} (hk : 2 ≤ k) : ax_free X (ax_em X k) := by
  unfold ax_em ax_free
  rw [if_neg (show ¬ k = 0 by omega), if_neg (show ¬ k = 1 by omega)]
  omega
theorem ax_em_new {X : ax_X} {H : ax_H} {Hm : Heap} (h : ax_rel X H Hm) : ax_em X H.length = Hm.size := by
  obtain ⟨h1, h2, -⟩ := h
  unfold ax_em
  rw [if_neg (show ¬ H.length = 0 by omega), if_neg (show ¬ H.length = 1 by omega)]
  omega
theorem ax_rel.at {X : ax_X} {H : ax_H} {Hm : Heap} (h : ax_rel X H Hm) {k : Nat} {c : ax_C} (hk : ax_get H k = some c) : ax_at X (ax_em X k) c Hm ∧ (c.1 ≠ 20 → 2 ≤ k) := h.2.2.2 k c hk
theorem ax_rel.set {X : ax_X} (hX : ax_ok X) {H : ax_H} {Hm H1 : Heap} (h : ax_rel X H Hm) {k : Nat} {c0 c : ax_C} (hk : ax_get H k = some c0) (h0 : c0.1 ≠ 20) (ha : ax_at X (ax_em X k) c H1) (hz : H1.size = Hm.size) (ho : ∀ q, q ≠ ax_em X k → H1[q]? = Hm[q]?) : ax_rel X (ax_set H k c) H1 := by
  have hk2 : 2 ≤ k := (h.at hk).2 h0
  have hf : X.1.heap.size ≤ ax_em X k := ax_em_free hk2
  refine ⟨by rw [hz]; simpa [ax_set] using h.1, by simpa [ax_set] using h.2.1, fun q hq => ?_, fun j d hj => ?_⟩
  · rw [ho q (by omega)]
    exact h.2.2.1 q hq
  · by_cases hjk : j = k
    · subst hjk
      rw [show (ax_set H j c)[j]? = some c by simp [ax_set, ax_get_lt hk]] at hj
      cases hj
      exact ⟨ha, fun _ => hk2⟩
    · rw [show (ax_set H k c)[j]? = H[j]? by simp [ax_set, List.getElem?_set_ne (Ne.symm hjk)]] at hj
      obtain ⟨a1, a2⟩ := h.2.2.2 j d hj
      exact ⟨a1.kept (ho _ (ax_em_ne hX hk2 hjk)), a2⟩
theorem ax_at.lt {X : ax_X} {a : Nat} {c : ax_C} {Hm : Heap} (h : ax_at X a c Hm) : a < Hm.size := by
  unfold ax_at at h
  cases e : ax_ty c.1 with
  | some ty =>
    rw [e] at h
    obtain ⟨cell, h1, -⟩ := h
    exact (Array.getElem?_eq_some_iff.mp h1).1
  | none =>
    rw [e] at h
    obtain ⟨r, h1, h2, cell, h3, -⟩ := h
    exact (Array.getElem?_eq_some_iff.mp h3).1
theorem ax_rel.push {X : ax_X} {H : ax_H} {Hm H1 : Heap} (h : ax_rel X H Hm) {c : ax_C} (ha : ax_at X Hm.size c H1) (hz : H1.size = Hm.size + 1) (ho : ∀ q, q < Hm.size → H1[q]? = Hm[q]?) : ax_rel X (H ++ [c]) H1 := by
  have hn := ax_em_new h
  obtain ⟨g1, g2, g3, g4⟩ := id h
  refine ⟨by simp; omega, by simp; omega, fun q hq => ?_, fun j d hj => ?_⟩
  · rw [ho q (by omega)]
    exact g3 q hq
  · by_cases hl : j < H.length
    · rw [List.getElem?_append_left hl] at hj
      obtain ⟨a1, a2⟩ := g4 j d hj
      exact ⟨a1.kept (ho _ a1.lt), a2⟩
    · rw [List.getElem?_append_right (by omega)] at hj
      have h0 : j - H.length < 1 := (List.getElem?_eq_some_iff.mp hj).1
      have hj0 : j = H.length := by omega
      subst hj0
      rw [Nat.sub_self] at hj
      cases hj
      exact ⟨by rw [hn]; exact ha, fun _ => g2⟩
theorem ax_rel.ob {X : ax_X} {H : ax_H} {Hm : Heap} (h : ax_rel X H Hm) {k ci : Nat} {fs : List Value} (hci : ax_ty ci = none) (hk : ax_get H k = some (ci, fs)) : ax_ob X (ax_em X k) (ci, fs) Hm := by
  have := (h.at hk).1
  unfold ax_at at this
  rw [show ax_ty (ci, fs).1 = none from hci] at this
  exact this
theorem ax_rel.ar {X : ax_X} {H : ax_H} {Hm : Heap} (h : ax_rel X H Hm) {k ci : Nat} {ty : FieldType} {vs : List Value} (hci : ax_ty ci = some ty) (hk : ax_get H k = some (ci, vs)) : ax_ar X (ax_em X k) (ci, vs) Hm ty := by
  have := (h.at hk).1
  unfold ax_at at this
  rw [show ax_ty (ci, vs).1 = some ty from hci] at this
  exact this
/-! the instructions -/
def ai_iload (i : Nat) : ax_I := fun n _ _ κ ls st H => ∃ x : Int32, ls[i]? = some (some (.int x)) ∧ n κ ls (.int x :: st) H
def ai_lload (i : Nat) : ax_I := fun n _ _ κ ls st H => ∃ x : Int64, ls[i]? = some (some (.long x)) ∧ n κ ls (.long x :: st) H
def ai_aload (i : Nat) : ax_I := fun n _ _ κ ls st H => ∃ x : Nat, ls[i]? = some (some (.ref x)) ∧ n κ ls (.ref x :: st) H
def ai_const (v : Value) : ax_I := fun n _ _ κ ls st H => n κ ls (v :: st) H
def ai_istore (i : Nat) : ax_I := fun n _ _ κ ls st H => ∃ (x : Int32) (r : List Value), st = .int x :: r ∧ n κ (ax_s1 ls i (.int x)) r H
def ai_lstore (i : Nat) : ax_I := fun n _ _ κ ls st H => ∃ (x : Int64) (r : List Value), st = .long x :: r ∧ n κ (ax_s2 ls i (.long x)) r H
def ai_astore (i : Nat) : ax_I := fun n _ _ κ ls st H => ∃ (x : Nat) (r : List Value), st = .ref x :: r ∧ n κ (ax_s1 ls i (.ref x)) r H
def ai_iinc (i : Nat) (d : Int32) : ax_I := fun n _ _ κ ls st H => ∃ x : Int32, ls[i]? = some (some (.int x)) ∧ n κ (ax_s1 ls i (.int (x + d))) st H
def ai_b (f : Int32 → Int32 → Int32) : ax_I := fun n _ _ κ ls st H => ∃ (x y : Int32) (r : List Value), st = .int y :: .int x :: r ∧ n κ ls (.int (f x y) :: r) H
def ai_bd (f : Int32 → Int32 → Int32) : ax_I := fun n _ _ κ ls st H => ∃ (x y : Int32) (r : List Value), st = .int y :: .int x :: r ∧ ¬ y = 0 ∧ n κ ls (.int (f x y) :: r) H
def ai_lb (f : Int64 → Int64 → Int64) : ax_I := fun n _ _ κ ls st H => ∃ (x y : Int64) (r : List Value), st = .long y :: .long x :: r ∧ n κ ls (.long (f x y) :: r) H
def ai_lbd (f : Int64 → Int64 → Int64) : ax_I := fun n _ _ κ ls st H => ∃ (x y : Int64) (r : List Value), st = .long y :: .long x :: r ∧ ¬ y = 0 ∧ n κ ls (.long (f x y) :: r) H
def ai_lcmp : ax_I := fun n _ _ κ ls st H => ∃ (x y : Int64) (r : List Value), st = .long y :: .long x :: r ∧ n κ ls (.int (lg_cmp x y) :: r) H
def ai_i2l : ax_I := fun n _ _ κ ls st H => ∃ (x : Int32) (r : List Value), st = .int x :: r ∧ n κ ls (.long x.toInt64 :: r) H
def ai_l2i : ax_I := fun n _ _ κ ls st H => ∃ (x : Int64) (r : List Value), st = .long x :: r ∧ n κ ls (.int x.toInt32 :: r) H
def ai_i2b : ax_I := fun n _ _ κ ls st H => ∃ (x : Int32) (r : List Value), st = .int x :: r ∧ n κ ls (.int x.toInt8.toInt32 :: r) H
def ai_dup : ax_I := fun n _ _ κ ls st H => ∃ (v : Value) (r : List Value), st = v :: r ∧ v.category = 1 ∧ n κ ls (v :: v :: r) H
def ai_dup2 : ax_I := fun n _ _ κ ls st H => ∃ (v w : Value) (r : List Value), st = v :: w :: r ∧ v.category = 1 ∧ w.category = 1 ∧ n κ ls (v :: w :: v :: w :: r) H
def ai_getf (ci k : Nat) : ax_I := fun n _ _ κ ls st H => ∃ (a : Nat) (r : List Value) (fs : List Value) (v : Value), st = .ref a :: r ∧ ax_get H a = some (ci, fs) ∧ fs[k]? = some v ∧ n κ ls (v :: r) H
def ai_putI (ci k : Nat) : ax_I := fun n _ _ κ ls st H => ∃ (x : Int32) (a : Nat) (r : List Value) (fs : List Value), st = .int x :: .ref a :: r ∧ ax_get H a = some (ci, fs) ∧ n κ ls r (ax_set H a (ci, fs.set k (.int x)))
def ai_putL (ci k : Nat) : ax_I := fun n _ _ κ ls st H => ∃ (x : Int64) (a : Nat) (r : List Value) (fs : List Value), st = .long x :: .ref a :: r ∧ ax_get H a = some (ci, fs) ∧ n κ ls r (ax_set H a (ci, fs.set k (.long x)))
def ai_putR (ci k : Nat) : ax_I := fun n _ _ κ ls st H => ∃ (x : Nat) (a : Nat) (r : List Value) (fs : List Value), st = .ref x :: .ref a :: r ∧ ax_get H a = some (ci, fs) ∧ n κ ls r (ax_set H a (ci, fs.set k (.ref x)))
def ai_gets : ax_I := fun n _ _ κ ls st H => n κ ls (.ref 1 :: st) H
def ai_alen (tg : Nat) : ax_I := fun n _ _ κ ls st H => ∃ (a : Nat) (r vs : List Value), st = .ref a :: r ∧ ax_get H a = some (tg, vs) ∧ n κ ls (.int (nI vs.length) :: r) H
def ai_iald (tg : Nat) : ax_I := fun n _ _ κ ls st H => ∃ (j : Int32) (a : Nat) (r vs : List Value) (v : Value), st = .int j :: .ref a :: r ∧ ax_get H a = some (tg, vs) ∧ ¬ j < 0 ∧ vs[j.toNatClampNeg]? = some v ∧ n κ ls (v :: r) H
def ai_iast : ax_I := fun n _ _ κ ls st H => ∃ (x j : Int32) (a : Nat) (r vs : List Value), st = .int x :: .int j :: .ref a :: r ∧ ax_get H a = some (21, vs) ∧ ¬ j < 0 ∧ j.toNatClampNeg < vs.length ∧ n κ ls r (ax_set H a (21, vs.set j.toNatClampNeg (.int x)))
def ai_bast : ax_I := fun n _ _ κ ls st H => ∃ (x j : Int32) (a : Nat) (r vs : List Value), st = .int x :: .int j :: .ref a :: r ∧ ax_get H a = some (22, vs) ∧ (x = 0 ∨ x = 1) ∧ ¬ j < 0 ∧ j.toNatClampNeg < vs.length ∧ n κ ls r (ax_set H a (22, vs.set j.toNatClampNeg (.int x)))
def ai_aast : ax_I := fun n _ _ κ ls st H => ∃ (x : Nat) (j : Int32) (a : Nat) (r vs fs : List Value), st = .ref x :: .int j :: .ref a :: r ∧ ax_get H a = some (24, vs) ∧ ax_get H x = some (0, fs) ∧ ¬ j < 0 ∧ j.toNatClampNeg < vs.length ∧ n κ ls r (ax_set H a (24, vs.set j.toNatClampNeg (.ref x)))
def ai_new (lim : ax_B) (ci : Nat) (df : List Value) : ax_I := fun n _ _ κ ls st H => κ.1 + 1 ≤ lim.1 ∧ κ.2 + df.length ≤ lim.2 ∧ n (κ.1 + 1, κ.2 + df.length) ls (.ref H.length :: st) (H ++ [(ci, df)])
def ai_newa (lim : ax_B) (tg : Nat) : ax_I := fun n _ _ κ ls st H => ∃ (k : Int32) (r : List Value), st = .int k :: r ∧ ¬ k < 0 ∧ k.toNatClampNeg ≤ 100000 ∧ κ.1 + 1 ≤ lim.1 ∧ κ.2 + k.toNatClampNeg ≤ lim.2 ∧ n (κ.1 + 1, κ.2 + k.toNatClampNeg) ls (.ref H.length :: r) (H ++ [(tg, List.replicate k.toNatClampNeg (.int 0))])
def ai_anew (lim : ax_B) : ax_I := fun n _ _ κ ls st H => ∃ (k : Int32) (r : List Value), st = .int k :: r ∧ ¬ k < 0 ∧ k.toNatClampNeg ≤ 100000 ∧ κ.1 + 1 ≤ lim.1 ∧ κ.2 + k.toNatClampNeg ≤ lim.2 ∧ n (κ.1 + 1, κ.2 + k.toNatClampNeg) ls (.ref H.length :: r) (H ++ [(24, List.replicate k.toNatClampNeg .null)])
def ai_if1 (f : Int32 → Prop) (t : Nat) : ax_I := fun n j _ κ ls st H => ∃ (x : Int32) (r : List Value), st = .int x :: r ∧ (f x → j t κ ls r H) ∧ (¬ f x → n κ ls r H)
def ai_if2 (f : Int32 → Int32 → Prop) (t : Nat) : ax_I := fun n j _ κ ls st H => ∃ (x y : Int32) (r : List Value), st = .int y :: .int x :: r ∧ (f x y → j t κ ls r H) ∧ (¬ f x y → n κ ls r H)
def ai_goto (t : Nat) : ax_I := fun _ j _ κ ls st H => j t κ ls st H
def ax_sw (x : Int32) (f : Nat → Prop) (d : Prop) : List (Int32 × Nat) → Prop
  | [] => d
  | q :: r => (x = q.1 → f q.2) ∧ (¬ x = q.1 → ax_sw x f d r)
def ai_sw (cs : List (Int32 × Nat)) (d : Nat) : ax_I := fun _ j _ κ ls st H => ∃ (x : Int32) (r : List Value), st = .int x :: r ∧ ax_sw x (fun t => j t κ ls r H) (j d κ ls r H) cs
def ai_iret : ax_I := fun _ _ R _ _ st H => ∃ x : Int32, st = [.int x] ∧ R (some (.int x)) H
def ai_zret : ax_I := fun _ _ R _ _ st H => ∃ x : Int32, st = [.int x] ∧ (x = 0 ∨ x = 1) ∧ R (some (.int x)) H
def ai_lret : ax_I := fun _ _ R _ _ st H => ∃ x : Int64, st = [.long x] ∧ R (some (.long x)) H
def ai_vret : ax_I := fun _ _ R _ _ st H => st = [] ∧ R none H
def ai_obji : ax_I := fun n _ _ κ ls st H => ∃ (a : Nat) (r : List Value), st = .ref a :: r ∧ r.length ≤ 4 ∧ n κ ls r H
def ai_call (Y : ax_M) (k : Nat) : ax_I := fun n _ _ κ ls st H => k ≤ st.length ∧ (st.drop k).length ≤ 4 ∧ ∃ (v : Option Value) (H' : ax_H), ax_ev Y (st.take k).reverse H v H' ∧ n κ ls (v.toList ++ st.drop k) H'
def ai_callV (ci : Nat) (Y : ax_M) (k : Nat) : ax_I := fun n _ _ κ ls st H => k + 1 ≤ st.length ∧ (st.drop (k + 1)).length ≤ 4 ∧ (∃ (a : Nat) (fs : List Value), st[k]? = some (.ref a) ∧ ax_get H a = some (ci, fs)) ∧ ∃ (v : Option Value) (H' : ax_H), ax_ev Y (st.take (k + 1)).reverse H v H' ∧ n κ ls (v.toList ++ st.drop (k + 1)) H'
def ai_callI (lim : ax_B) (Y : ax_M) (k : Nat) : ax_I := fun n _ _ κ ls st H => k + 1 ≤ st.length ∧ (st.drop (k + 1)).length ≤ 4 ∧ (∃ a : Nat, st[k]? = some (.ref a)) ∧ κ.1 + Y.2.2.2.2.2.1 ≤ lim.1 ∧ κ.2 + Y.2.2.2.2.2.2 ≤ lim.2 ∧ ∃ (v : Option Value) (H' : ax_H), ax_ev Y (st.take (k + 1)).reverse H v H' ∧ n (κ.1 + Y.2.2.2.2.2.1, κ.2 + Y.2.2.2.2.2.2) ls (v.toList ++ st.drop (k + 1)) H'
def ai_acopy : ax_I := fun n _ _ κ ls st H => ∃ (c dp sp : Int32) (d s0 : Nat) (r xs ys : List Value), st = .int c :: .int dp :: .ref d :: .int sp :: .ref s0 :: r ∧ r.length ≤ 4 ∧ ax_get H s0 = some (21, xs) ∧ ax_get H d = some (21, ys) ∧ ¬ sp < 0 ∧ ¬ dp < 0 ∧ ¬ c < 0 ∧
  sp.toNatClampNeg + c.toNatClampNeg ≤ xs.length ∧ dp.toNatClampNeg + c.toNatClampNeg ≤ ys.length ∧ n κ ls r (ax_set H d (21, ys.take dp.toNatClampNeg ++ (xs.drop sp.toNatClampNeg).take c.toNatClampNeg ++ ys.drop (dp.toNatClampNeg + c.toNatClampNeg)))
