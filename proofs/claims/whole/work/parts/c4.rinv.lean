/-! reading: what both have read is alike -/
theorem rmw_some {T : Nat → Int32} {n i cnt j : Nat} {RM : List Nat} {x : ms_m} (h : ms_rm T n i cnt = (some x, j)) : rmw T n i cnt RM = (((RM.set (4 * cnt) x.1).set (4 * cnt + 1) x.2.1).set (4 * cnt + 2) x.2.2.1).set (4 * cnt + 3) x.2.2.2 := by
  unfold ms_rm at h
  unfold rmw
  split at h
  · next hi =>
    rw [if_pos hi]
    split at h
    · cases h
    · next k hk =>
      rw [hk]
      dsimp only
      split at h
      · cases h
      · next h6 =>
        rw [if_neg h6]
        split at h
        · cases h
        · next p hp =>
          rw [hp]
          dsimp only
          split at h
          · cases h
          · next q hq =>
            rw [hq]
            dsimp only
            split at h
            · cases h
            · next c hc =>
              rw [hc]
              cases h
              rfl
  · cases h
theorem srt_ins {ec eo : List Nat} {c : Nat} (hs : srt (fun e => ec.getD e 0) eo) (hm : ∀ e, e ∈ eo ↔ e < ec.length) (hl : eo.length = ec.length) : srt (fun e => (ec ++ [c]).getD e 0) (ms_ins ec c eo) ∧ ∀ e, e ∈ ms_ins ec c eo ↔ e < ec.length + 1 := by
  have hC : ∀ e, e < ec.length → (ec ++ [c]).getD e 0 = ec.getD e 0 := fun e he => by rw [getD_app, if_pos he]
  have hN : (ec ++ [c]).getD eo.length 0 = c := by rw [getD_app, if_neg (by omega), hl, Nat.sub_self]; rfl
  have hr := ms_rank_le ec c eo eo.length
  have hR : (∀ a, a ∈ eo.take (ms_rank ec c eo eo.length) → c ≤ ec.getD a 0) ∧ ∀ b, b ∈ eo.drop (ms_rank ec c eo eo.length) → ec.getD b 0 < c := by
    have key : ∀ r, r ≤ eo.length → (∀ b, b ∈ eo.drop r → ec.getD b 0 < c) → (∀ a, a ∈ eo.take (ms_rank ec c eo r) → c ≤ ec.getD a 0) ∧ ∀ b, b ∈ eo.drop (ms_rank ec c eo r) → ec.getD b 0 < c := by
      intro r
      induction r with
      | zero =>
        intro h1 h2
        exact ⟨fun a ha => by simp [ms_rank] at ha, h2⟩
      | succ r ih =>
        intro h1 h2
        have hd := drop_getD (l := eo) (j := r) (by omega)
        unfold ms_rank
        by_cases hc : ec.getD (eo.getD r 0) 0 < c
        · rw [if_pos hc]
          refine ih (by omega) fun b hb => ?_
          rw [hd] at hb
          rcases List.mem_cons.mp hb with rfl | hb
          · exact hc
          · exact h2 b hb
        · rw [if_neg hc]
          refine ⟨fun a ha => ?_, h2⟩
          have ht : eo.take (r + 1) = eo.take r ++ [eo.getD r 0] := by
            rw [List.take_succ_eq_append_getElem (by omega)]
            simp [List.getD_eq_getElem?_getD, show r < eo.length by omega]
          rw [ht] at ha
          rcases List.mem_append.mp ha with ha | ha
          · have hp : (eo.take r ++ eo.drop r).Pairwise (fun a b => ec.getD b 0 < ec.getD a 0 ∨ (ec.getD b 0 = ec.getD a 0 ∧ a < b)) := by rw [List.take_append_drop]; exact hs
            have := (List.pairwise_append.mp hp).2.2 a ha (eo.getD r 0) (by rw [hd]; exact List.mem_cons_self)
            omega
          · rw [List.mem_singleton.mp ha]
            omega
    exact key eo.length (Nat.le_refl _) (fun b hb => by rw [List.drop_length] at hb; cases hb)
  have hmt : ∀ a, a ∈ eo.take (ms_rank ec c eo eo.length) → a < ec.length := fun a ha => (hm a).mp (List.mem_of_mem_take ha)
  have hmd : ∀ a, a ∈ eo.drop (ms_rank ec c eo eo.length) → a < ec.length := fun a ha => (hm a).mp (List.mem_of_mem_drop ha)
  have hp : (eo.take (ms_rank ec c eo eo.length) ++ eo.drop (ms_rank ec c eo eo.length)).Pairwise (fun a b => ec.getD b 0 < ec.getD a 0 ∨ (ec.getD b 0 = ec.getD a 0 ∧ a < b)) := by rw [List.take_append_drop]; exact hs
  obtain ⟨p1, p2, p3⟩ := List.pairwise_append.mp hp
  have hmem : ∀ e, e ∈ ms_ins ec c eo ↔ e < ec.length + 1 := by
    intro e
    unfold ms_ins
    rw [List.append_assoc, List.mem_append, List.mem_append, List.mem_singleton]
    constructor
    · rintro (h | h | h)
      · have := hmt e h; omega
      · omega
      · have := hmd e h; omega
    · intro h
      by_cases he : e = eo.length
      · exact Or.inr (Or.inl he)
      · have : e ∈ eo := (hm e).mpr (by omega)
        rw [← List.take_append_drop (ms_rank ec c eo eo.length) eo] at this
        rcases List.mem_append.mp this with h | h
        · exact Or.inl h
        · exact Or.inr (Or.inr h)
  refine ⟨?_, hmem⟩
  unfold srt ms_ins
  show List.Pairwise (fun a b => (ec ++ [c]).getD b 0 < (ec ++ [c]).getD a 0 ∨ ((ec ++ [c]).getD b 0 = (ec ++ [c]).getD a 0 ∧ a < b)) _
  rw [List.append_assoc]
  refine List.pairwise_append.mpr ⟨?_, ?_, ?_⟩
  · refine List.Pairwise.imp_of_mem ?_ p1
    intro a b ha hb h
    rw [hC a (hmt a ha), hC b (hmt b hb)]
    exact h
  · refine List.pairwise_append.mpr ⟨List.pairwise_singleton _ _, ?_, ?_⟩
    · refine List.Pairwise.imp_of_mem ?_ p2
      intro a b ha hb h
      rw [hC a (hmd a ha), hC b (hmd b hb)]
      exact h
    · intro a ha b hb
      rw [List.mem_singleton.mp ha, hN, hC b (hmd b hb)]
      exact Or.inl (hR.2 b hb)
  · intro a ha b hb
    rcases List.mem_append.mp hb with hb | hb
    · have h1 := hR.1 a ha
      have h2 := hmt a ha
      rw [List.mem_singleton.mp hb, hN, hC a h2]
      omega
    · rw [hC a (hmt a ha), hC b (hmd b hb)]
      exact p3 a ha b hb
def rinv (r : ms_RM) (g : ms_RR) (RM : List Nat) : Prop :=
  RM.length = 24 ∧ (∀ j, j < r.1.length → RM.getD (4 * j) 0 = r.1.getD j 0 ∧ RM.getD (4 * j + 1) 0 = g.1.getD j 0 ∧ RM.getD (4 * j + 2) 0 = r.2.1.getD j 0 ∧ r.2.2.1.getD j 0 = ms_eff (r.1.getD j 0) (RM.getD (4 * j + 3) 0) ∧ r.1.getD j 0 < 6 ∧ g.1.getD j 0 < 8 ∧ 1 ≤ r.2.1.getD j 0 ∧ r.2.1.getD j 0 < 4 ∧ RM.getD (4 * j + 3) 0 < 10) ∧
  g.2.1 = 2 ^ r.1.length - 1 ∧ srt (fun e => r.2.2.1.getD e 0) r.2.2.2.1 ∧ (∀ e, e ∈ r.2.2.2.1 ↔ e < r.1.length)
theorem ones_or : ∀ n, n < 6 → (2 ^ n - 1) ||| 2 ^ n = 2 ^ (n + 1) - 1 := by decide +kernel
theorem rinv_step {T : Nat → Int32} {n i j : Nat} {x : ms_m} {r : ms_RM} {g : ms_RR} {RM : List Nat} (h : ms_rm T n i r.1.length = (some x, j)) (hw : rdw r g) (hv : rinv r g RM) : rinv (ms_st x r) (ms_sr x r.1.length g) (rmw T n i r.1.length RM) := by
  obtain ⟨x1, x2, x3, x4, x5, x6, x7⟩ := ms_rm_lt h
  obtain ⟨w1, w2, w3, w4, w5, w6, w7, w8, w9, w10, w11, w12⟩ := hw
  obtain ⟨v1, v2, v3, v4, v5⟩ := hv
  rw [rmw_some h]
  obtain ⟨q1, q2⟩ := srt_ins (ec := r.2.2.1) (eo := r.2.2.2.1) (c := ms_eff x.1 x.2.2.2) v4 (fun e => by rw [v5, w2]) (by omega)
  refine ⟨by simp only [List.length_set]; exact v1, fun k hk => ?_, ?_, q1, fun e => ?_⟩
  · have hk' : k < r.1.length + 1 := by have : k < (r.1 ++ [x.1]).length := hk; rw [List.length_append] at this; exact this
    show _ ∧ _ = (g.1 ++ [x.2.1]).getD k 0 ∧ _ = (r.2.1 ++ [x.2.2.1]).getD k 0 ∧ (r.2.2.1 ++ [ms_eff x.1 x.2.2.2]).getD k 0 = ms_eff ((r.1 ++ [x.1]).getD k 0) _ ∧ (r.1 ++ [x.1]).getD k 0 < 6 ∧ (g.1 ++ [x.2.1]).getD k 0 < 8 ∧ 1 ≤ (r.2.1 ++ [x.2.2.1]).getD k 0 ∧ (r.2.1 ++ [x.2.2.1]).getD k 0 < 4 ∧ _
    show _ = (r.1 ++ [x.1]).getD k 0 ∧ _
    have l1 : (RM.set (4 * r.1.length) x.1).length = 24 := by rw [List.length_set]; exact v1
    have l2 : ((RM.set (4 * r.1.length) x.1).set (4 * r.1.length + 1) x.2.1).length = 24 := by rw [List.length_set]; exact l1
    have l3 : (((RM.set (4 * r.1.length) x.1).set (4 * r.1.length + 1) x.2.1).set (4 * r.1.length + 2) x.2.2.1).length = 24 := by rw [List.length_set]; exact l2
    rw [gs (by omega), gs (by omega), gs (by omega), gs (by omega), gs (by omega), gs (by omega), gs (by omega), gs (by omega), gs (by omega), gs (by omega), gs (by omega), gs (by omega), gs (by omega), gs (by omega), gs (by omega), gs (by omega)]
    by_cases e : k = r.1.length
    · subst e
      rw [getD_app, getD_app, getD_app, getD_app, if_neg (Nat.lt_irrefl _), if_neg (show ¬ r.1.length < g.1.length by omega), if_neg (show ¬ r.1.length < r.2.1.length by omega), if_neg (show ¬ r.1.length < r.2.2.1.length by omega), w4, w1, w2, Nat.sub_self]
      simp (disch := omega) only [if_pos, if_neg, if_true]
      exact ⟨rfl, rfl, rfl, rfl, x1, x2, x3, x4, x5⟩
    · obtain ⟨y1, y2, y3, y4, y5, y6, y7, y8, y9⟩ := v2 k (by omega)
      rw [getD_app, getD_app, getD_app, getD_app, if_pos (show k < r.1.length by omega), if_pos (show k < g.1.length by omega), if_pos (show k < r.2.1.length by omega), if_pos (show k < r.2.2.1.length by omega)]
      simp (disch := omega) only [if_neg]
      exact ⟨y1, y2, y3, y4, y5, y6, y7, y8, y9⟩
  · show g.2.1 ||| 2 ^ r.1.length = 2 ^ (r.1 ++ [x.1]).length - 1
    rw [v3, List.length_append]
    exact ones_or _ x6
  · have := q2 e
    rw [w2] at this
    show e ∈ ms_ins r.2.2.1 (ms_eff x.1 x.2.2.2) r.2.2.2.1 ↔ e < (r.1 ++ [x.1]).length
    rw [List.length_append]
    exact this
theorem rl_keep {T : Nat → Int32} {n : Nat} : ∀ {z i : Nat} {r : ms_RM} {g : ms_RR}, (ms_rl T n z i r g).2.2.2.2.2.1 = g.2.2.1 ∧ (ms_rl T n z i r g).2.2.2.2.2.2.2.1 = g.2.2.2.2.1 ∧ (ms_rl T n z i r g).2.2.2.2.2.2.2.2.1 = g.2.2.2.2.2.1
  | 0, _, _, _ => ⟨rfl, rfl, rfl⟩
  | z + 1, i, r, g => by
    unfold ms_rl
    split
    · exact ⟨rfl, rfl, rfl⟩
    · split
      · exact rl_keep
      · exact ⟨rfl, rfl, rfl⟩
theorem rl_rel {T : Nat → Int32} {n : Nat} : ∀ {z i : Nat} {r : ms_RM} {g : ms_RR} {RM : List Nat}, i ≤ n → rdw r g → rinv r g RM → r.1.length + z = 7 → (r.1.length = 0 ∨ i < n) →
    (rl2 T n (z + 1) i r.1.length RM).1 = (ms_rl T n z i r g).1 ∧ (rl2 T n (z + 1) i r.1.length RM).2.2.2.length = 24 ∧ ((ms_rl T n z i r g).1 = none → (rl2 T n (z + 1) i r.1.length RM).2.2.1 = (ms_rl T n z i r g).2.2.1.1.length ∧ 0 < (ms_rl T n z i r g).2.2.1.1.length ∧ rinv (ms_rl T n z i r g).2.2.1 (ms_rl T n z i r g).2.2.2 (rl2 T n (z + 1) i r.1.length RM).2.2.2)
  | 0, i, r, g, RM, _, hw, _, h7, _ => by
    have := hw.2.2.2.2.2.2.1
    omega
  | z + 1, i, r, g, RM, hi, hw, hv, h7, h0 => by
    have hv1 := hv.1
    have e2 : rl2 T n (z + 1 + 1) i r.1.length RM = (match ms_rm T n i r.1.length with
      | (none, j) => (some j, j, r.1.length, rmw T n i r.1.length RM)
      | (some _, j) => rl2 T n (z + 1) (ms_sk T (n - j) j) (r.1.length + 1) (rmw T n i r.1.length RM)) := by
      show (if i = n ∧ 0 < r.1.length then _ else _) = _
      rw [if_neg (by omega)]
      cases ms_rm T n i r.1.length with
      | mk o j => cases o <;> rfl
    rw [e2]
    unfold ms_rl
    have hle := ms_rm_le (T := T) (cnt := r.1.length) hi
    cases hr : ms_rm T n i r.1.length with
    | mk o j =>
      rw [hr] at hle
      cases o with
      | none =>
        dsimp only
        exact ⟨rfl, by rw [rmw_len]; exact hv1, fun e => by cases e⟩
      | some x =>
        have hlt := ms_rm_lt hr
        have s1 := ms_sk_le (T := T) (z := n - j) (i := j)
        have hw2 := ms_step_wf hw ⟨hlt.1, hlt.2.2.2.2.1⟩ hlt.2.2.2.2.2.1
        have hv2 := rinv_step hr hw hv
        have hl : (ms_st x r).1.length = r.1.length + 1 := by show (r.1 ++ [x.1]).length = _; rw [List.length_append]; rfl
        dsimp only at hle ⊢
        by_cases hk : ms_sk T (n - j) j < n
        · rw [if_pos hk]
          have g := rl_rel (T := T) (n := n) (z := z) (i := ms_sk T (n - j) j) (by omega) hw2 hv2 (by omega) (Or.inr hk)
          rw [hl] at g
          exact g
        · rw [if_neg hk]
          have e3 : rl2 T n (z + 1) (ms_sk T (n - j) j) (r.1.length + 1) (rmw T n i r.1.length RM) = (none, ms_sk T (n - j) j, r.1.length + 1, rmw T n i r.1.length RM) := by
            show (if ms_sk T (n - j) j = n ∧ 0 < r.1.length + 1 then _ else _) = _
            rw [if_pos ⟨by omega, by omega⟩]
          rw [e3]
          dsimp only
          exact ⟨rfl, hv2.1, fun _ => ⟨hl.symm, by omega, hv2⟩⟩
theorem rd_rel {T : Nat → Int32} {n : Nat} {r : ms_RM} {g : ms_RR} {RM : List Nat} (hv : rdv r g) (hR : RM.length = 24) :
    (rdR T n RM).1 = (ms_rd T n r g).1 ∧ (rdR T n RM).2.2.2.2.length = 24 ∧ rdv (ms_rd T n r g).2.2.1 (ms_rd T n r g).2.2.2 ∧ (ms_rd T n r g).2.2.2.2.2.2.2.1 = g.2.2.2.2.1 ∧ (ms_rd T n r g).2.2.2.2.2.2.2.2.1 = g.2.2.2.2.2.1 ∧ ((ms_rd T n r g).1 = none → (rdR T n RM).2.2.2.1 = (ms_rd T n r g).2.2.1.1.length ∧ 0 < (ms_rd T n r g).2.2.1.1.length ∧ rinv (ms_rd T n r g).2.2.1 (ms_rd T n r g).2.2.2 (rdR T n RM).2.2.2.2 ∧ rdw (ms_rd T n r g).2.2.1 (ms_rd T n r g).2.2.2 ∧ (ms_rd T n r g).2.2.2.2.2.1 = (rdR T n RM).2.2.1 ∧ (rdR T n RM).2.2.1 < 256) := by
  have s0 := ms_sk_le (T := T) (z := n) (i := 0)
  unfold rdR ms_rd
  cases hr : ms_rch T n (ms_sk T n 0) with
  | mk b p =>
    obtain ⟨i, ch⟩ := p
    have hi : i ≤ n ∧ ch < 256 := by
      unfold ms_rch at hr
      split at hr
      · have h1 := (ms_rc_le (T := T) (n := n) (z := 9) (i := ms_sk T n 0 + 1) (many := 0) (l1 := 0) (ch := 0) (by omega)).1
        have h2 := ms_rc_ch (T := T) (n := n) (z := 9) (i := ms_sk T n 0 + 1) (many := 0) (l1 := 0) (ch := 0) (by omega)
        rw [hr] at h1 h2
        exact ⟨h1, h2⟩
      · cases hr
        exact ⟨by omega, by omega⟩
    have wz := rdw_z ch hv
    cases b with
    | false =>
      dsimp only
      exact ⟨rfl, hR, rdw_v wz, rfl, rfl, fun e => by cases e⟩
    | true =>
      dsimp only
      have s1 := ms_sk_le (T := T) (z := n - i) (i := i)
      have v0 : rinv (ms_rz r) (ms_gz g ch) RM := ⟨hR, fun j hj => absurd hj (by simp [ms_rz]), rfl, List.Pairwise.nil, fun e => by simp [ms_rz]⟩
      have hi1 := hi.1
      have k := rl_rel (T := T) (n := n) (z := 7) (i := ms_sk T (n - i) i) (r := ms_rz r) (g := ms_gz g ch) (RM := RM) (by omega) wz v0 rfl (Or.inl rfl)
      have wf := ms_rl_wf (T := T) (n := n) (z := 7) (i := ms_sk T (n - i) i) (by omega) wz
      have kp := rl_keep (T := T) (n := n) (z := 7) (i := ms_sk T (n - i) i) (r := ms_rz r) (g := ms_gz g ch)
      refine ⟨k.1, k.2.1, rdw_v wf.1, kp.2.1, kp.2.2, fun e => ?_⟩
      obtain ⟨k1, k2, k3⟩ := k.2.2 e
      exact ⟨k1, k2, k3, wf.1, kp.1, hi.2⟩
