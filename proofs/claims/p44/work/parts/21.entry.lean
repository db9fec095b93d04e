/-! a method's beginning; calls -/
def ax_ent : List Value → ax_L
  | [] => []
  | .long u :: r => some (.long u) :: none :: ax_ent r
  | .double u :: r => some (.double u) :: none :: ax_ent r
  | v :: r => some v :: ax_ent r
theorem ax_ent_args (X : ax_X) : ∀ (as : List Value) (off i : Nat) (v : Value), (ax_ent as)[i]? = some (some v) → (off + i, ax_v X v) ∈ lv_args off (as.map (ax_v X)) := by
  intro as
  induction as with
  | nil => intro off i v h; simp [ax_ent] at h
  | cons a r ih =>
    intro off i v h
    by_cases hc : a.category = 2
    · have he : ax_ent (a :: r) = some a :: none :: ax_ent r := by cases a <;> first | rfl | (simp [Value.category] at hc; done)
      rw [he] at h
      rw [List.map_cons, lv_args, ax_cat, if_pos hc]
      match i, h with
      | 0, h => simp at h; subst h; exact List.mem_cons_self
      | 1, h => simp at h
      | i + 2, h =>
        have := ih (off + 2) i v (by simpa using h)
        rw [show off + 2 + i = off + (i + 2) by omega] at this
        exact List.mem_cons_of_mem _ this
    · have he : ax_ent (a :: r) = some a :: ax_ent r := by cases a <;> first | rfl | (simp [Value.category] at hc; done)
      rw [he] at h
      rw [List.map_cons, lv_args, ax_cat, if_neg hc]
      match i, h with
      | 0, h => simp at h; subst h; exact List.mem_cons_self
      | i + 1, h =>
        have := ih (off + 1) i v (by simpa using h)
        rw [show off + 1 + i = off + (i + 1) by omega] at this
        exact List.mem_cons_of_mem _ this
theorem ax_ent_len (X : ax_X) : ∀ as : List Value, (lg_sl (as.map (ax_v X))).length = (ax_ent as).length := by
  intro as
  induction as with
  | nil => rfl
  | cons a r ih =>
    have e : lg_sl ((a :: r).map (ax_v X)) = lg_sl [ax_v X a] ++ lg_sl (r.map (ax_v X)) := by
      rw [List.map_cons]
      simp [lg_sl]
    rw [e, List.length_append, ih]
    cases a <;> simp [ax_ent, lg_sl, ax_v, Value.category] <;> omega
/-- a method's contract out of its walk: as, the arguments; ls, what they are in its locals -/
theorem ax_beg {Y : ax_M} {as : List Value} {H : ax_H} {v : Option Value} {H' : ax_H} (z : Nat) (hy : plainName Y.1.cls = true) (hz : (ax_ent as).length + z = Y.2.2.1)
    (h : ax_go Y (fun v' H'' => v' = v ∧ H'' = H') 0 (0, 0) (ax_ent as ++ List.replicate z none) [] H) : ax_ev Y as H v H' := by
  refine ax_evof hy (ax_ent as ++ List.replicate z none) (fun X i v hi => ?_) (fun X => ?_) h
  · by_cases hl : i < (ax_ent as).length
    · rw [List.getElem?_append_left hl] at hi
      have := ax_ent_args X as 0 i v hi
      rwa [Nat.zero_add] at this
    · rw [List.getElem?_append_right (by omega), List.getElem?_replicate] at hi
      split at hi <;> simp at hi
  · rw [ax_ent_len]
    omega
section KC
variable {Y : ax_M} {n : ax_K} {j : ax_J} {R : ax_R} {κ : ax_B} {ls : ax_L} {st r as : List Value} {H H' : ax_H} {v : Option Value} {k ci a : Nat} {fs : List Value}
theorem k_call (hc : ax_ev Y as H v H') (hst : st = as.reverse ++ r) (hk : as.length = k) (hr : Nat.ble r.length 4 = true) (h : n κ ls (v.toList ++ r) H') : ai_call Y k n j R κ ls st H := by
  subst hst
  have h1 : (as.reverse ++ r).drop k = r := by rw [← hk, ← List.length_reverse]; exact List.drop_left
  have h2 : ((as.reverse ++ r).take k).reverse = as := by rw [← hk, ← List.length_reverse, List.take_left, List.reverse_reverse]
  exact ⟨by simp; omega, by rw [h1]; exact Nat.le_of_ble_eq_true hr, v, H', by rw [h2]; exact hc, by rw [h1]; exact h⟩
theorem k_callV (hf : ax_get H a = some (ci, fs)) (hc : ax_ev Y (.ref a :: as) H v H') (hst : st = as.reverse ++ .ref a :: r) (hk : as.length = k) (hr : Nat.ble r.length 4 = true) (h : n κ ls (v.toList ++ r) H') : ai_callV ci Y k n j R κ ls st H := by
  have hst2 : st = (Value.ref a :: as).reverse ++ r := by rw [hst]; simp
  have hk2 : (Value.ref a :: as).length = k + 1 := by simp [hk]
  have h1 : st.drop (k + 1) = r := by rw [hst2, ← hk2, ← List.length_reverse]; exact List.drop_left
  have h2 : (st.take (k + 1)).reverse = .ref a :: as := by rw [hst2, ← hk2, ← List.length_reverse, List.take_left, List.reverse_reverse]
  refine ⟨by rw [hst2]; simp; omega, by rw [h1]; exact Nat.le_of_ble_eq_true hr, ⟨a, fs, ?_, hf⟩, v, H', by rw [h2]; exact hc, by rw [h1]; exact h⟩
  rw [hst, List.getElem?_append_right (by simp; omega)]
  simp [hk]
theorem k_callI {lim : ax_B} (hc : ax_ev Y (.ref a :: as) H v H') (hst : st = as.reverse ++ .ref a :: r) (hk : as.length = k) (hr : Nat.ble r.length 4 = true) (b1 : κ.1 + Y.2.2.2.2.2.1 ≤ lim.1) (b2 : κ.2 + Y.2.2.2.2.2.2 ≤ lim.2) (h : n (κ.1 + Y.2.2.2.2.2.1, κ.2 + Y.2.2.2.2.2.2) ls (v.toList ++ r) H') : ai_callI lim Y k n j R κ ls st H := by
  have hst2 : st = (Value.ref a :: as).reverse ++ r := by rw [hst]; simp
  have hk2 : (Value.ref a :: as).length = k + 1 := by simp [hk]
  have h1 : st.drop (k + 1) = r := by rw [hst2, ← hk2, ← List.length_reverse]; exact List.drop_left
  have h2 : (st.take (k + 1)).reverse = .ref a :: as := by rw [hst2, ← hk2, ← List.length_reverse, List.take_left, List.reverse_reverse]
  refine ⟨by rw [hst2]; simp; omega, by rw [h1]; exact Nat.le_of_ble_eq_true hr, ⟨a, ?_⟩, b1, b2, v, H', by rw [h2]; exact hc, by rw [h1]; exact h⟩
  rw [hst, List.getElem?_append_right (by simp; omega)]
  simp [hk]
theorem k_acopy {c dp sp d s0 : Nat} {xs ys : List Value} {Dp Sp C : Int32} (hs : ax_get H s0 = some (21, xs)) (hd : ax_get H d = some (21, ys)) (eC : C = nI c) (eS : Sp = nI sp) (eD : Dp = nI dp) (h1 : sp + c ≤ xs.length) (h2 : dp + c ≤ ys.length) (hx : xs.length ≤ 100000) (hy : ys.length ≤ 100000) (hr : Nat.ble r.length 4 = true)
    (h : n κ ls r (ax_set H d (21, ys.take dp ++ (xs.drop sp).take c ++ ys.drop (dp + c)))) : ai_acopy n j R κ ls (.int C :: .int Dp :: .ref d :: .int Sp :: .ref s0 :: r) H := by
  subst eC; subst eS; subst eD
  refine ⟨nI c, nI dp, nI sp, d, s0, r, xs, ys, rfl, Nat.le_of_ble_eq_true hr, hs, hd, nI_pos (by omega), nI_pos (by omega), nI_pos (by omega), ?_, ?_, ?_⟩
  · rw [nI_clamp (by omega), nI_clamp (by omega)]; exact h1
  · rw [nI_clamp (by omega), nI_clamp (by omega)]; exact h2
  · rw [nI_clamp (by omega), nI_clamp (by omega), nI_clamp (by omega)]; exact h
end KC
/-! rows of ints in the heap -/
def iv (xs : List Int32) : List Value := xs.map Value.int
def gv (ps : List Nat) (r : List Int32) : List Value := ps.map (fun n => Value.int (nI n)) ++ r.map Value.int
theorem iv_len (xs : List Int32) : (iv xs).length = xs.length := List.length_map _
theorem gv_len (ps : List Nat) (r : List Int32) : (gv ps r).length = ps.length + r.length := by simp [gv]
theorem iv_set (xs : List Int32) (i : Nat) (x : Int32) : (iv xs).set i (.int x) = iv (xs.set i x) := by unfold iv; rw [List.map_set]
theorem gv_set {ps : List Nat} {r : List Int32} {i : Nat} (v : Nat) (h : i < ps.length) : (gv ps r).set i (.int (nI v)) = gv (ps.set i v) r := by
  unfold gv
  rw [List.set_append_left _ _ (by simpa using h), List.map_set]
def ig (l : List Int32) (i : Nat) : Int32 := l.getD i 0
theorem iv_rd {xs : List Int32} {i : Nat} {P : Value → Prop} (h : i < xs.length) (hb : xs.length ≤ 100000) : ax_rd (iv xs) (nI i) P = P (.int (ig xs i)) := by
  unfold ax_rd iv ig
  have h1 : ¬ nI i < 0 := nI_pos (by omega)
  rw [nI_clamp (by omega)]
  simp [h1, h]
theorem gv_rd {ps : List Nat} {r : List Int32} {i : Nat} {P : Value → Prop} (h : i < ps.length) (hb : ps.length ≤ 100000) : ax_rd (gv ps r) (nI i) P = P (.int (nI (ps.getD i 0))) := by
  unfold ax_rd gv
  have h1 : ¬ nI i < 0 := nI_pos (by omega)
  rw [nI_clamp (by omega), List.getElem?_append_left (by simpa using h)]
  simp [h1, h]
theorem iv_wr {xs : List Int32} {i : Nat} {P : Nat → Prop} (h : i < xs.length) (hb : xs.length ≤ 100000) : ax_wr (iv xs) (nI i) P = P i := by
  unfold ax_wr
  have h1 : ¬ nI i < 0 := nI_pos (by omega)
  rw [nI_clamp (by omega), iv_len]
  simp [h1, h]
theorem gv_wr {ps : List Nat} {r : List Int32} {i : Nat} {P : Nat → Prop} (h : i < ps.length) (hb : ps.length ≤ 100000) : ax_wr (gv ps r) (nI i) P = P i := by
  unfold ax_wr
  have h1 : ¬ nI i < 0 := nI_pos (by omega)
  have h2 : i < ps.length + r.length := by omega
  rw [nI_clamp (by omega), gv_len]
  simp [h1, h2]
/-! the heap under writes -/
theorem get_set_eq {H : ax_H} {a : Nat} {c : ax_C} (h : a < H.length) : ax_get (ax_set H a c) a = some c := by simp [ax_get, ax_set, h]
theorem get_set_ne {H : ax_H} {a b : Nat} {c : ax_C} (h : a ≠ b) : ax_get (ax_set H a c) b = ax_get H b := by simp [ax_get, ax_set, List.getElem?_set_ne h]
theorem set_len (H : ax_H) (a : Nat) (c : ax_C) : (ax_set H a c).length = H.length := by simp [ax_set]
theorem set_set (H : ax_H) (a : Nat) (c d : ax_C) : ax_set (ax_set H a c) a d = ax_set H a d := by simp [ax_set]
theorem set_comm (H : ax_H) {a b : Nat} (c d : ax_C) (h : a ≠ b) : ax_set (ax_set H a c) b d = ax_set (ax_set H b d) a c := by
  unfold ax_set
  exact List.set_comm c d h
theorem set_self {H : ax_H} {a : Nat} {c : ax_C} (h : ax_get H a = some c) : ax_set H a c = H := by
  apply List.ext_getElem?
  intro i
  by_cases e : a = i
  · subst e
    rw [ax_set, List.getElem?_set_self (ax_get_lt h)]
    exact h.symm
  · rw [ax_set, List.getElem?_set_ne e]
theorem obj_set_ne {H : ax_H} {a b ci : Nat} {c : ax_C} {P : List Value → Prop} (h : a ≠ b) : ax_obj (ax_set H a c) b ci P = ax_obj H b ci P := by unfold ax_obj; rw [get_set_ne h]
theorem obj_set_eq {H : ax_H} {a ci : Nat} {fs : List Value} {P : List Value → Prop} (h : a < H.length) : ax_obj (ax_set H a (ci, fs)) a ci P = P fs := ax_obj_of (get_set_eq h)
