/-! makings, switches, copies -/
def ai_mna (lim : ax_B) : ax_I := fun n _ _ κ ls st H => ∃ (k z : Int32) (r : List Value), st = .int k :: .int z :: r ∧ ¬ z < 0 ∧ ¬ k < 0 ∧ z.toNatClampNeg ≤ 100000 ∧ k.toNatClampNeg ≤ 100000 ∧ κ.1 + (1 + z.toNatClampNeg) ≤ lim.1 ∧ κ.2 + (z.toNatClampNeg + z.toNatClampNeg * k.toNatClampNeg) ≤ lim.2 ∧
  n (κ.1 + 1 + z.toNatClampNeg, κ.2 + z.toNatClampNeg + z.toNatClampNeg * k.toNatClampNeg) ls (.ref H.length :: r) (H ++ (23, (List.range z.toNatClampNeg).map (fun i => Value.ref (H.length + 1 + i))) :: List.replicate z.toNatClampNeg (21, List.replicate k.toNatClampNeg (.int 0)))
section SNN
variable {Y : ax_M} {pc : Nat}
theorem sn_new {ci idx : Nat} {df : List Value} (q : vw_C) (hc : vwCl[ci]? = some q) (ht : ax_ty ci = none) (hci : ci ≠ 20) (hdl : df.length = q.2.2) (ty : Nat → FieldType) (hty : ∀ k, k < q.2.2 → parseFieldDescriptor (q.2.1 k).2.2.1 = some (ty k)) (hdf : ∀ j, j < q.2.2 → defaultValue (ty j) = vp_V df j) (hsc : ∀ v ∈ df, ∀ X : ax_X, ax_v X v = v)
    (hw1 : Cond.classLink Y.1.cls idx q.1 ∈ ax_tb) (hw2 : Cond.instantiable q.1 q.2.2 ∈ ax_tb) (hw3 : Cond.initialized q.1 ∈ ax_tb) (hd : decode Y.2.1 pc = .ok (.new idx, 3)) : ax_snd Y pc 3 (ai_new Y.2.2.2.2.2 ci df) := by
  intro R n κ ls st H hn ⟨b1, b2, h⟩ X hX p l e s m args below meth c F Hm locs lsM hl hr hq g1 g2
  have hKn := (ax_kn hX F.2.2.2.2.2.2.2.1).1 ci _ hc
  rw [hdl] at h b2
  have hmap : df.map (ax_v X) = df := by
    conv => rhs; rw [← List.map_id df]
    exact List.map_congr_left fun v hv => hsc v hv X
  refine W.newcK F.1 F.2.1 F.2.2.2.1 (F.2.2.2.2.1 _ hw1) (F.2.2.2.2.1 _ hw2) (F.2.2.2.2.1 _ hw3) rfl hd b1 b2 hKn.2.1 rfl fun H1 kC hkC e1 z1 o1 => ?_
  have hnew := hn _ _ _ _ h X hX p l e s m args below meth c F H1 locs lsM hl (hr.push (c := (ci, df)) (by
    unfold ax_at
    rw [show ax_ty (ci, df).1 = none from ht]
    exact ⟨q, hc, hdl, (u_born ty F.2.2.2.2.1 (ax_cwin q (ax_cl hc)) hKn hkC e1 hty).to fun k hk => by rw [hdf k hk, hmap]⟩) z1 o1) hq b1 b2
  rw [show (Value.ref H.length :: st).map (ax_v X) = .ref Hm.size :: st.map (ax_v X) by rw [← ax_em_new hr]; rfl] at hnew
  exact hnew
theorem sn_newa {at0 : ArrayType} {tg : Nat} (hty : ax_ty tg = some (newarray.typeOf at0)) (hdv : defaultValue (newarray.typeOf at0) = .int 0) (hcb : componentBytes (newarray.typeOf at0) ≤ 8) (htg : tg ≠ 20) (hw : Cond.arrayClass (newarray.typeOf at0) ∈ ax_tb) (hd : decode Y.2.1 pc = .ok (.newarray at0, 2)) : ax_snd Y pc 2 (ai_newa Y.2.2.2.2.2 tg) := by
  intro R n κ ls st H hn ⟨k, r, h1, h2, h3, b1, b2, h⟩ X hX p l e s m args below meth c F Hm locs lsM hl hr hq g1 g2
  subst h1
  refine va_newaK (N := k.toNatClampNeg) F.1 F.2.1 (F.2.2.2.2.1 _ hw) rfl hd rfl h2 rfl (by
    have := Nat.mul_le_mul h3 hcb
    omega) b1 b2 rfl fun H1 cA e1 z1 o1 hAr hNm => ?_
  have hnew := hn _ _ _ _ h X hX p l e s m args below meth c F H1 locs lsM hl (hr.push (c := (tg, List.replicate k.toNatClampNeg (.int 0))) (by
    unfold ax_at
    rw [show ax_ty (tg, List.replicate k.toNatClampNeg (Value.int 0)).1 = _ from hty]
    refine ⟨_, e1, ?_, fun z => (by cases z), ?_, ⟨fun _ v hv => ⟨0, (List.mem_replicate.mp hv).2⟩, fun z => by cases at0 <;> cases z⟩⟩
    · obtain ⟨a1, k1, a2, a3⟩ := hAr k.toNatClampNeg (fun _ => defaultValue (newarray.typeOf at0))
      exact State.isArrayOf_alike F.2.2.2.2.2.2.2.1.alike.symm ⟨a1, k1, a2, a3⟩
    · rw [hdv, ← arrV_new]
      simp [ax_v]) z1 o1) hq b1 b2
  rw [show (Value.ref H.length :: r).map (ax_v X) = .ref Hm.size :: r.map (ax_v X) by rw [← ax_em_new hr]; rfl] at hnew
  exact hnew
theorem sn_anew {idx : Nat} (hw1 : Cond.classLink Y.1.cls idx "ChairCabinet$Deeds" ∈ ax_tb) (hd : decode Y.2.1 pc = .ok (.anewarray idx, 3)) : ax_snd Y pc 3 (ai_anew Y.2.2.2.2.2) := by
  intro R n κ ls st H hn ⟨k, r, h1, h2, h3, b1, b2, h⟩ X hX p l e s m args below meth c F Hm locs lsM hl hr hq g1 g2
  subst h1
  have hao : va_AO "ChairCabinet$Deeds" s := va_AO.moved F.2.2.2.2.2.2.2.1.alike hX.2.2.2.2.2.1
  refine W.anew F.1 F.2.1 F.2.2.2.1 (F.2.2.2.2.1 _ hw1) hao.use rfl hd rfl h2 (by omega) b1 b2 fun cA kA comp a1 a2 a3 a4 => ?_
  have hcls := ((ax_kn hX F.2.2.2.2.2.2.2.1).1 0 _ rfl).2
  obtain ⟨k', hk', he⟩ := F.2.2.2.2.2.2.2.1.alike.symm.2.2 _ _ a2
  have hex : ∃ k : Class, X.1.vm.classes[cA]? = some k ∧ k.kind = .array (X.2.1 0) (.object "ChairCabinet$Deeds") := ⟨k', hk', by rw [he]; rw [show X.2.1 0 = comp from Option.some.inj (hcls.1.symm.trans a4)]; exact a3⟩
  have hnew := hn _ _ _ _ h X hX p l e s m args below meth c F (Hm.push { cls := cA, slots := Array.replicate k.toNatClampNeg .null, vm := .none }) locs lsM hl (hr.push (c := (24, List.replicate k.toNatClampNeg .null)) (by
    exact ⟨{ cls := cA, slots := Array.replicate k.toNatClampNeg .null, vm := .none }, by simp, State.isArrayOf_alike (s := s) F.2.2.2.2.2.2.2.1.alike.symm ⟨fun k h => (by cases h), kA, a2, comp, a3⟩, fun z => (by cases z), by simp [ax_v], ⟨fun z => (by cases z), fun _ => hex⟩⟩) (by simp) (fun q hq => by rw [Array.getElem?_push, if_neg (Nat.ne_of_lt hq)])) hq b1 b2
  rw [show (Value.ref H.length :: r).map (ax_v X) = .ref Hm.size :: r.map (ax_v X) by rw [← ax_em_new hr]; rfl] at hnew
  exact hnew
theorem sn_aast (hd : decode Y.2.1 pc = .ok (.aastore, 1)) : ax_snd Y pc 1 ai_aast := by
  intro R n κ ls st H hn ⟨x, j, a, r, vs, fs, h1, h2, hx, h3, h4, h⟩ X hX p l e s m args below meth c F Hm locs lsM hl hr hq g1 g2
  subst h1
  obtain ⟨cell, q1, q2, q3, q4, q5⟩ := hr.ar (ty := .object "ChairCabinet$Deeds") rfl h2
  obtain ⟨r', e1, e2, cellV, v1, v2, v3, -⟩ := hr.ob (ci := 0) rfl hx
  have hcls := ((ax_kn hX F.2.2.2.2.2.2.2.1).1 0 _ rfl).2
  obtain ⟨k0, b1, b2⟩ := q5.2 rfl
  obtain ⟨k', hk', he⟩ := F.2.2.2.2.2.2.2.1.alike.2.2 _ _ b1
  obtain ⟨kC, hkC, hkind⟩ := hcls.2
  exact W.aast F.1 F.2.1 q1 q2.1 q3 hk' (by rw [he]; exact b2) rfl hkC ⟨h3, by rw [ax_sz q4]; exact h4⟩ v1 (fun q z => by rw [v3] at z; cases z) (by rw [v2]; exact hkC) (by rw [v2]; exact va_assign hcls) rfl rfl hd
    (fun H1 z1 z2 z3 => hn _ _ _ _ h X hX p l e s m args below meth c F H1 _ lsM hl (hr.set hX h2 (show (24 : Nat) ≠ 20 by decide) ⟨cell.setSlot _ _, z1, q2, q3, ax_setl q4 _ (.ref x), ⟨fun z => (by cases z), fun _ => q5.2 rfl⟩⟩ z2 z3) (ax_locs hq (ax_em_free ((hr.at h2).2 (show (24 : Nat) ≠ 20 by decide)))) g1 g2)
theorem sn_tsw {df lo hi : Int} {offs : Array Int} {len d : Nat} (cs : List (Int32 × Nat)) (hdf : (pc : Int) + df = (d : Int)) (hd : decode Y.2.1 pc = .ok (.tableswitch df lo hi offs, len))
    (hn : (cs.length : Int) = hi - lo + 1) (hcs : ∀ i : Nat, i < cs.length → ∃ (q : Int32 × Nat) (off : Int), cs[i]? = some q ∧ q.1.toInt = lo + i ∧ offs[i]? = some off ∧ (pc : Int) + off = (q.2 : Int)) : ax_snd Y pc len (ai_sw cs d) := by
  intro R n κ ls st H hn0 ⟨x, r, h1, h⟩ X hX p l e s m args below meth c F Hm locs lsM hl hr hq g1 g2
  subst h1
  have key : ∀ (L : List (Int32 × Nat)) (f : Nat → Prop) (dd : Prop), ax_sw x f dd L → (∃ (i : Nat) (q : Int32 × Nat), L[i]? = some q ∧ x = q.1 ∧ f q.2) ∨ ((∀ q ∈ L, ¬ x = q.1) ∧ dd) := by
    intro L f dd
    induction L with
    | nil => intro hh; exact Or.inr ⟨fun q hq => (by cases hq), hh⟩
    | cons q L ih =>
      intro hh
      by_cases hx : x = q.1
      · exact Or.inl ⟨0, q, rfl, hx, hh.1 hx⟩
      · rcases ih (hh.2 hx) with ⟨i, q', a1, a2, a3⟩ | ⟨a1, a2⟩
        · exact Or.inl ⟨i + 1, q', by simpa using a1, a2, a3⟩
        · refine Or.inr ⟨fun z hz => ?_, a2⟩
          rcases List.mem_cons.mp hz with rfl | hz
          · exact hx
          · exact a1 z hz
  rcases key _ _ _ h with ⟨i, q, a1, a2, a3⟩ | ⟨a1, a2⟩
  · have hi : i < cs.length := (List.getElem?_eq_some_iff.mp a1).1
    obtain ⟨q', off, c1, c2, c3, c4⟩ := hcs i hi
    cases a1.symm.trans c1
    have hxi : x.toInt = lo + i := by rw [a2]; exact c2
    exact lv_tableIn (off := off) F.1 F.2.1 hd (by omega) (by omega) (by rw [hxi]; rw [show (lo + (i : Int) - lo).toNat = i by omega]; exact c3) c4 (a3 X hX p l e s m args below meth c F Hm locs lsM hl hr hq g1 g2)
  · refine lv_tableOut F.1 F.2.1 hd ?_ hdf (a2 X hX p l e s m args below meth c F Hm locs lsM hl hr hq g1 g2)
    by_cases hlo : x.toInt < lo
    · exact Or.inl hlo
    · refine Or.inr (Int.not_le.mp fun hle => ?_)
      have hi : (x.toInt - lo).toNat < cs.length := by omega
      obtain ⟨q', off, c1, c2, c3, c4⟩ := hcs _ hi
      exact a1 q' (List.mem_of_getElem? c1) (Int32.toInt_inj.mp (by rw [c2]; omega))
theorem sn_acopy {idx : Nat} (hw1 : Cond.methodLink Y.1.cls idx arraycopyName ∈ ax_tb) (hw2 : Cond.native arraycopyName ∈ ax_tb) (hw3 : Cond.static arraycopyName ∈ ax_tb) (hw4 : Cond.initialized "java/lang/System" ∈ ax_tb) (hdep : 1 ≤ Y.2.2.2.2.1) (hd : decode Y.2.1 pc = .ok (.invokestatic idx, 3)) : ax_snd Y pc 3 ai_acopy := by
  intro R n κ ls st H hn ⟨k, dp, sp, d, s0, r, xs, ys, h1, h2, hs, ht, p1, p2, p3, p4, p5, h⟩ X hX p l e s m args below meth c F Hm locs lsM hl hr hq g1 g2
  subst h1
  obtain ⟨cs, c1, c2, c3, c4, c5⟩ := hr.ar (ty := .int) rfl hs
  obtain ⟨cd, d1, d2, d3, d4, d5⟩ := hr.ar (ty := .int) rfl ht
  obtain ⟨c6, ks, c7, sComp, c8⟩ := ax_vm F.2.2.2.2.2.2.2.1 c2
  obtain ⟨d6, kd, d7, dComp, d8⟩ := ax_vm F.2.2.2.2.2.2.2.1 d2
  have nn : ∀ z : Int32, ¬ z < 0 → z.toInt = (z.toNatClampNeg : Int) := by
    intro z hz
    have hz0 : (0 : Int) ≤ z.toInt := by
      have := Int32.not_lt.mp hz
      simpa using Int32.le_iff_toInt_le.mp this
    show z.toInt = ((z.toInt.toNat : Nat) : Int)
    omega
  have hc8 := ax_cats X r h2
  have hstr : cs.stretch sp.toNatClampNeg k.toNatClampNeg = ((xs.drop sp.toNatClampNeg).take k.toNatClampNeg).map (ax_v X) := by
    apply List.ext_getElem?
    intro i
    unfold Cell.stretch
    by_cases hi : i < k.toNatClampNeg
    · rw [List.getElem?_map, List.getElem?_range hi, List.getElem?_map, List.getElem?_take_of_lt hi, List.getElem?_drop]
      have hlt : sp.toNatClampNeg + i < xs.length := by omega
      rw [List.getElem?_eq_getElem hlt]
      have := ax_slot c4 (List.getElem?_eq_getElem hlt)
      simp only [Option.map_some, Array.getD_eq_getD_getElem?, this, Option.getD_some]
    · rw [List.getElem?_eq_none (by simp; omega), List.getElem?_eq_none (by simp; omega)]
  intro T hT S
  obtain ⟨vm', X', step⟩ := S.arraycopy F.1 F.2.2.2.1 (F.2.2.2.2.1 _ hw1) (F.2.2.2.2.1 _ hw2) (F.2.2.2.2.1 _ hw3) (F.2.2.2.2.1 _ hw4) (src := ax_em X s0) (dst := ax_em X d) (cs := cs) (cd := cd) (srcPos := sp) (destPos := dp) (n := k) (by rw [hT]; exact c1) (by rw [hT]; exact d1)
    c6 d6 c3 d3 c7 d7 c8 d8 (by decide) p1 p2 p3 (by rw [nn sp p1, nn k p3, ax_sz c4]; show ¬ ((sp.toNatClampNeg : Int) + (k.toNatClampNeg : Int) > (xs.length : Int)); omega) (by rw [nn dp p2, nn k p3, ax_sz d4]; show ¬ ((dp.toNatClampNeg : Int) + (k.toNatClampNeg : Int) > (ys.length : Int)); omega)
    (fun vm₁ _ i hi => by
      have hlt : sp.toNatClampNeg + i < xs.length := by omega
      have hv := ax_slot c4 (List.getElem?_eq_getElem hlt)
      obtain ⟨x, hx⟩ := c5.1 rfl _ (List.getElem_mem hlt)
      rw [hx] at hv
      rw [Array.getD_eq_getD_getElem?, hv]
      exact ⟨rfl, trivial⟩)
    (g := F0 m pc lsM ((Value.int k :: .int dp :: .ref d :: .int sp :: .ref s0 :: r).map (ax_v X))) rfl (hl.1.trans F.2.2.1.symm) (rest := r.map (ax_v X)) rfl (by rw [F.2.1]; exact hd) hdep (by
      show 2 * 0 + _ + (7 + 11) ≤ 36 * Y.2.2.2.2.1 + 16
      omega)
  have hf := cd.storeRun_facts dp.toNatClampNeg (cs.stretch sp.toNatClampNeg k.toNatClampNeg)
  have hheap : ((T.setVm vm').setCell (ax_em X d) (copied cs cd sp dp k)).heap = Hm.setIfInBounds (ax_em X d) (copied cs cd sp dp k) := by rw [← hT]; rfl
  have hlt : ax_em X d < Hm.size := (Array.getElem?_eq_some_iff.mp d1).1
  have hd2 : 2 ≤ d := (hr.at ht).2 (show (21 : Nat) ≠ 20 by decide)
  have hrel : ax_rel X (ax_set H d (21, ys.take dp.toNatClampNeg ++ (xs.drop sp.toNatClampNeg).take k.toNatClampNeg ++ ys.drop (dp.toNatClampNeg + k.toNatClampNeg))) (Hm.setIfInBounds (ax_em X d) (copied cs cd sp dp k)) := by
    refine hr.set hX ht (show (21 : Nat) ≠ 20 by decide) ⟨copied cs cd sp dp k, by simp [Array.getElem?_setIfInBounds, hlt], ?_, ?_, ?_, ⟨fun _ v hv => ?_, fun z => (by cases z)⟩⟩ (by simp) (fun q hq => by simp [Array.getElem?_setIfInBounds, Ne.symm hq])
    · obtain ⟨y1, y2⟩ := d2
      refine ⟨?_, ?_⟩
      · show ∀ k_1, (cd.storeRun _ _).vm ≠ _
        rw [hf.2.1]; exact y1
      · show ∃ k_1, X.1.vm.classes[(cd.storeRun _ _).cls]? = _ ∧ _
        rw [hf.1]; exact y2
    · show (cd.storeRun _ _).vm ≠ _
      rw [hf.2.1]; exact d3
    · show (cd.storeRun dp.toNatClampNeg (cs.stretch sp.toNatClampNeg k.toNatClampNeg)).slots.toList = _
      have hsl : (cs.stretch sp.toNatClampNeg k.toNatClampNeg).length = k.toNatClampNeg := by simp [Cell.stretch]
      apply List.ext_getElem?
      intro j
      rw [Array.getElem?_toList, Cell.storeRun_get _ _ _ _ (by rw [hsl, ax_sz d4]; exact p5), hsl, hstr, ← Array.getElem?_toList, d4]
      simp only [List.map_append, List.map_take, List.map_drop, List.getElem?_append, List.length_take, List.length_map, List.length_append, List.length_drop]
      by_cases h1 : dp.toNatClampNeg ≤ j ∧ j < dp.toNatClampNeg + k.toNatClampNeg
      · rw [if_pos h1, if_pos (by omega), if_neg (by omega)]
        congr 1
        omega
      · rw [if_neg h1]
        by_cases h2 : j < dp.toNatClampNeg
        · rw [if_pos (by omega), if_pos (by omega), List.getElem?_take_of_lt h2]
        · rw [if_neg (by omega), List.getElem?_drop]
          congr 1
          omega
    · have hv' : v ∈ ys ∨ v ∈ xs := by
        rcases List.mem_append.mp hv with hv | hv
        · rcases List.mem_append.mp hv with hv | hv
          · exact Or.inl (List.mem_of_mem_take hv)
          · exact Or.inr (List.mem_of_mem_drop (List.mem_of_mem_take hv))
        · exact Or.inl (List.mem_of_mem_drop hv)
      rcases hv' with hv' | hv'
      · exact d5.1 rfl v hv'
      · exact c5.1 rfl v hv'
  obtain ⟨t, a1, b1⟩ := hn _ _ _ _ h X hX p l e s m args below meth c F (Hm.setIfInBounds (ax_em X d) (copied cs cd sp dp k)) (locs ++ (cs.stretch sp.toNatClampNeg k.toNatClampNeg).zipIdx.map fun q => ⟨ax_em X d, dp.toNatClampNeg + q.2⟩) lsM hl hrel (fun q hq' => by
    rcases List.mem_append.mp hq' with z | z
    · exact hq q z
    · obtain ⟨w, -, hw⟩ := List.mem_map.mp z
      rw [← hw]
      exact ax_em_free hd2) g1 g2 _ hheap X'
  exact ⟨t, step t a1, b1⟩
end SNN
