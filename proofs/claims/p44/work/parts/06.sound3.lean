/-! calls -/
theorem ax_cats (X : ax_X) (r : List Value) (h : r.length ≤ 4) : ((r.map (ax_v X)).map fun v => v.category).sum ≤ 8 := by
  have key : ∀ r : List Value, ((r.map (ax_v X)).map fun v => v.category).sum ≤ 2 * r.length := by
    intro r
    induction r with
    | nil => simp
    | cons v r ih =>
      have hv : v.category ≤ 2 := by cases v <;> simp [Value.category]
      simp only [List.map_cons, List.sum_cons, List.length_cons, ax_cat]
      omega
  have := key r
  omega
theorem ax_blind (X : ax_X) (as : List Value) (H : ax_H) : FrameBlind (ax_Pc X as H) := fun a U g mk h => ⟨h.1, h.2.1, h.2.2⟩
/-- what a method's own walk gives: its contract -/
theorem ax_evof {Y : ax_M} (hy : plainName Y.1.cls = true) {as : List Value} {H : ax_H} {v : Option Value} {H' : ax_H} (ls : ax_L) (hls : ∀ (X : ax_X) (i : Nat) (v : Value), ls[i]? = some (some v) → (i, ax_v X v) ∈ lv_args 0 (as.map (ax_v X))) (hlen : ∀ X : ax_X, (lg_sl (as.map (ax_v X))).length ≤ Y.2.2.1)
    (h : ax_go Y (fun v' H'' => v' = v ∧ H'' = H') 0 (0, 0) ls [] H) : ax_ev Y as H v H' := by
  intro X hX l
  refine Met.ofW (cc := Y.2.1) (maxL := Y.2.2.1) (ret := Y.2.2.2.1) hy rfl ?_
  intro p e s m args below meth c s₁ B hml hP
  obtain ⟨hargs, hrel, hwarm⟩ := hP
  subst hargs
  have hts : ∀ w ∈ ax_ws Y, w.before _ s = true := atoms_spec (ws := ax_ws Y) B.pre
  have hl := lv_entry (as.map (ax_v X)) (n := Y.2.2.1) (hlen X)
  rw [lg_entry_eq]
  exact h X hX p l e s m _ below meth c ⟨B.exec, B.bytes, hml, findClass_of_methodNamed B.named, fun w hw => hts w (List.mem_cons_of_mem _ hw), B.returns, B.notSynchronized, hwarm, (name_of_methodNamed B.named B.method).1⟩ s.heap [] _ (ax_ll_sub hl (hls X)) hrel (fun q hq => by simp at hq) (Nat.zero_le _) (Nat.zero_le _)
/-- behind a call -/
theorem ax_behind {X : ax_X} {p : Program} {l : Launch} {e : Env} {Rm : Room} {s : State} {m : MethodId} {args : Array Value} {below : List Frame} {meth : Method} {c : Code} {Hm : Heap} {locs : List Loc} {κ1 κ2 mc ms pc : Nat} {lsM : Array Slot} {st rest : List Value} {Q : State → Prop} {R : ax_R} {a : Array Value}
    (hr : va_Run p l e Rm s m args below meth c Hm locs κ1 κ2 mc ms (F0 m pc lsM st) rest (ax_Qc X R a) (ax_free X)) (hq : ∀ q ∈ locs, ax_free X q.base)
    (kk : ∀ (v : Option Value) (H' : ax_H) (H1 : Heap) (locs1 : List Loc), R v H' → ax_rel X H' H1 → (∀ q ∈ locs1, ax_free X q.base) → W p l e Rm s m args below meth c H1 locs1 (κ1 + mc) (κ2 + ms) Q (F0 m (pc + 3) lsM ((v.map (ax_v X)).toList ++ rest))) :
    W p l e Rm s m args below meth c Hm locs κ1 κ2 Q (F0 m pc lsM st) := by
  intro T hT S
  obtain ⟨v, st₀, t, T', L, h0, X', hL, e1, e2, ⟨v', H', hv, hR, hrel⟩, stp⟩ := hr T hT S
  cases hv
  obtain ⟨t2, a1, b1⟩ := kk v' H' T'.heap (locs ++ L) hR (by rw [e1]; exact hrel) (fun q hq' => by
    rcases List.mem_append.mp hq' with z | z
    · exact hq q z
    · exact hL q z) T' rfl X'
  exact ⟨t2, stp t2 a1, b1⟩
/-- what a call's row needs of its callee: words, room -/
def ax_callee (Y Z : ax_M) (idx n : Nat) : Prop := Cond.code Z.1 Z.2.1 Z.2.2.1 Z.2.2.2.1 ∈ ax_tb ∧ Cond.initialized Z.1.cls ∈ ax_tb ∧ Cond.methodLink Y.1.cls idx Z.1 ∈ ax_tb ∧ (Z.1.cls ≠ "java/lang/invoke/MethodHandle" ∧ Z.1.cls ≠ "java/lang/invoke/VarHandle" ∧ (parseMethodDescriptor Z.1.desc).map (fun d => d.parameters.length) = some n) ∧ Z.2.2.2.2.1 < Y.2.2.2.2.1 ∧ Z.2.2.1 ≤ 17
theorem ax_callB {X : ax_X} {Y Z : ax_M} {idx n : Nat} {p : Program} {s : State} {m : MethodId} {args : Array Value} {meth : Method} {c : Code} (hc : ax_callee Y Z idx n) (F : ax_fix Y X p s m args meth c) : CallB (ax_rm Y) s args Y.1.cls idx Z.1 Z.2.1 Z.2.2.1 Z.2.2.2.1 (ax_ws Z) (ax_rm Z) Z.2.2.2.2.2.1 Z.2.2.2.2.2.2 n := by
  obtain ⟨h1, h2, h3, h4, h5, h6⟩ := hc
  refine callB_of n F.2.2.2.2.1 (ws' := ax_tb) ?_ rfl rfl rfl (F.2.2.2.2.1 _ h2) (F.2.2.2.2.1 _ h3) h4 ⟨?_, ?_⟩
  · intro w hw
    rcases List.mem_cons.mp hw with rfl | hw
    · exact ax_tb_good _ h1
    · exact ax_tb_good _ hw
  · show Z.2.2.2.2.1 + 1 ≤ Y.2.2.2.2.1
    omega
  · show 8 + (Z.2.2.1 + 11) + (36 * Z.2.2.2.2.1 + 16) ≤ 36 * Y.2.2.2.2.1 + 16
    omega
theorem ax_split {st : List Value} {k : Nat} (h : k ≤ st.length) : st = (st.take k).reverse.reverse ++ st.drop k := by rw [List.reverse_reverse, List.take_append_drop]
theorem ax_fixC {X : ax_X} {Y : ax_M} {p : Program} {s : State} {m : MethodId} {args : Array Value} {meth : Method} {c : Code} (F : ax_fix Y X p s m args meth c) : CallFix p m c Y.2.1 Y.2.2.1 s args ax_tb Y.1.cls := ⟨F.1, F.2.1, F.2.2.1, F.2.2.2.1, F.2.2.2.2.1⟩
section SNC
variable {Y : ax_M} {pc : Nat}
theorem ax_outmap (X : ax_X) (v : Option Value) (r : List Value) : (v.map (ax_v X)).toList ++ r.map (ax_v X) = (v.toList ++ r).map (ax_v X) := by cases v <;> rfl
theorem sn_call {Z : ax_M} {k idx : Nat} (hz1 : Z.2.2.2.2.2.1 = 0) (hz2 : Z.2.2.2.2.2.2 = 0) (hc : ax_callee Y Z idx k) (hs : Cond.static Z.1 ∈ ax_tb) (hd : decode Y.2.1 pc = .ok (.invokestatic idx, 3)) : ax_snd Y pc 3 (ai_call Z k) := by
  intro R n κ ls st H hn ⟨h1, h2, v, H', hev, h⟩ X hX p l e s m args below meth c F Hm locs lsM hl hr hq g1 g2
  have hrun := va_runS (H := Hm) (locs := locs) (cells := κ.1) (slots := κ.2) (l := l) (e := e) (below := below) (meth := meth) (R := ax_rm Y) (As := (st.take k).reverse.map (ax_v X)) (rest := (st.drop k).map (ax_v X)) (g := F0 m pc lsM (st.map (ax_v X))) (ax_fixC F) (hev X hX l) ⟨ax_callB hc F, F.2.2.2.2.1 _ hs⟩
    ⟨ax_blind X _ _, fun U hU hW => ⟨rfl, by rw [hU]; exact hr, F.2.2.2.2.2.2.2.1.trans hW⟩⟩ rfl (by simp; omega) hl.1 (by
      show st.map (ax_v X) = _
      rw [← List.map_reverse, ← List.map_append, List.reverse_reverse, List.take_append_drop]) (lv_room (ax_cats X _ h2)) hd ⟨by rw [hz1]; exact g1, by rw [hz2]; exact g2⟩
  rw [hz1, hz2] at hrun
  refine ax_behind hrun hq fun v' H'' H1 locs1 hR hrel hq1 => ?_
  obtain ⟨rfl, rfl⟩ := hR
  rw [ax_outmap]
  exact hn _ _ _ _ h X hX p l e s m args below meth c F H1 locs1 lsM hl hrel hq1 g1 g2
theorem ax_tail {st : List Value} {k a : Nat} (h1 : k + 1 ≤ st.length) (h : st[k]? = some (.ref a)) : st = (st.take k).reverse.reverse ++ .ref a :: st.drop (k + 1) := by
  rw [List.reverse_reverse]
  have h2 : st.drop k = .ref a :: st.drop (k + 1) := by
    rw [List.drop_eq_getElem_cons (by omega)]
    rw [List.getElem?_eq_getElem (by omega)] at h
    rw [Option.some.inj h]
  rw [← h2, List.take_append_drop]
theorem ax_take1 {st : List Value} {k a : Nat} (h1 : k + 1 ≤ st.length) (h : st[k]? = some (.ref a)) : (st.take (k + 1)).reverse = .ref a :: (st.take k).reverse := by
  rw [List.take_succ, h]
  simp
theorem ax_recv {X : ax_X} (hX : ax_ok X) {s : State} (hs : X.1.WarmedH s.vm) {H : ax_H} {Hm : Heap} (hr : ax_rel X H Hm) {a ci : Nat} {fs : List Value} (q : vw_C) (hc : vwCl[ci]? = some q) (ht : ax_ty ci = none) (h : ax_get H a = some (ci, fs)) : ∃ cellB : Cell, Hm[ax_em X a]? = some cellB ∧ cellB.vm.isStatics = false ∧ s.vm.findClass q.1 = some cellB.cls := by
  obtain ⟨r', e1, e2, cell, q1, q2, q3, -⟩ := hr.ob ht h
  cases hc.symm.trans e1
  exact ⟨cell, q1, by rw [q3]; rfl, by rw [q2]; exact ((ax_kn hX hs).1 ci q hc).2.1⟩
theorem sn_callV {Z : ax_M} {ci k idx : Nat} (q : vw_C) (hcl : vwCl[ci]? = some q) (hqn : q.1 = Z.1.cls) (ht : ax_ty ci = none) (hz1 : Z.2.2.2.2.2.1 = 0) (hz2 : Z.2.2.2.2.2.2 = 0) (hc : ax_callee Y Z idx k) (hi : Cond.instanceMethod Z.1 ∈ ax_tb) (hs : Cond.selects Z.1.cls Z.1 Z.1 ∈ ax_tb) (hd : decode Y.2.1 pc = .ok (.invokevirtual idx, 3)) : ax_snd Y pc 3 (ai_callV ci Z k) := by
  intro R n κ ls st H hn ⟨h1, h2, ⟨a, fs, ha, hf⟩, v, H', hev, h⟩ X hX p l e s m args below meth c F Hm locs lsM hl hr hq g1 g2
  rw [ax_take1 h1 ha] at hev
  have hrun := va_runV (H := Hm) (locs := locs) (cells := κ.1) (slots := κ.2) (l := l) (e := e) (below := below) (meth := meth) (R := ax_rm Y) (C := Z.1.cls) (b := ax_em X a) (As := (st.take k).reverse.map (ax_v X)) (rest := (st.drop (k + 1)).map (ax_v X)) (g := F0 m pc lsM (st.map (ax_v X))) (ax_fixC F) (hev X hX l) ⟨ax_callB hc F, F.2.2.2.2.1 _ hi, F.2.2.2.2.1 _ hs⟩
    ⟨ax_blind X _ _, by rw [← hqn]; exact ax_recv hX F.2.2.2.2.2.2.2.1 hr q hcl ht hf, fun U hU hW => ⟨rfl, by rw [hU]; exact hr, F.2.2.2.2.2.2.2.1.trans hW⟩⟩ rfl (by simp; omega) hl.1 (by
      show st.map (ax_v X) = _
      conv => lhs; rw [ax_tail h1 ha]
      rw [List.map_append, List.map_reverse]
      rfl) (lv_room (ax_cats X _ h2)) hd ⟨by rw [hz1]; exact g1, by rw [hz2]; exact g2⟩
  rw [hz1, hz2] at hrun
  refine ax_behind hrun hq fun v' H'' H1 locs1 hR hrel hq1 => ?_
  obtain ⟨rfl, rfl⟩ := hR
  rw [ax_outmap]
  exact hn _ _ _ _ h X hX p l e s m args below meth c F H1 locs1 lsM hl hrel hq1 g1 g2
theorem sn_callI {Z : ax_M} {k idx : Nat} (hret : Z.2.2.2.1 = none) (hname : Z.1.name = "<init>") (hc : ax_callee Y Z idx k) (hi : Cond.instanceMethod Z.1 ∈ ax_tb) (hd : decode Y.2.1 pc = .ok (.invokespecial idx, 3)) : ax_snd Y pc 3 (ai_callI Y.2.2.2.2.2 Z k) := by
  intro R n κ ls st H hn ⟨h1, h2, ⟨a, ha⟩, b1, b2, v, H', hev, h⟩ X hX p l e s m args below meth c F Hm locs lsM hl hr hq g1 g2
  rw [ax_take1 h1 ha] at hev
  have hcb := ax_callB hc F
  rw [hret] at hcb
  have hrun := va_runI (H := Hm) (locs := locs) (cells := κ.1) (slots := κ.2) (l := l) (e := e) (below := below) (meth := meth) (R := ax_rm Y) (b := ax_em X a) (As := (st.take k).reverse.map (ax_v X)) (rest := (st.drop (k + 1)).map (ax_v X)) (g := F0 m pc lsM (st.map (ax_v X))) (ax_fixC F) (hev X hX l) ⟨hcb, hname, F.2.2.2.2.1 _ hi⟩
    ⟨ax_blind X _ _, fun U hU hW => ⟨rfl, by rw [hU]; exact hr, F.2.2.2.2.2.2.2.1.trans hW⟩⟩ rfl (by simp; omega) hl.1 (by
      show st.map (ax_v X) = _
      conv => lhs; rw [ax_tail h1 ha]
      rw [List.map_append, List.map_reverse]
      rfl) (lv_room (ax_cats X _ h2)) hd ⟨b1, b2⟩
  refine ax_behind hrun hq fun v' H'' H1 locs1 hR hrel hq1 => ?_
  obtain ⟨rfl, rfl⟩ := hR
  rw [ax_outmap]
  exact hn _ _ _ _ h X hX p l e s m args below meth c F H1 locs1 lsM hl hrel hq1 b1 b2
theorem ax_nestof {X : ax_X} (hX : ax_ok X) {s : State} (hs : X.1.WarmedH s.vm) : ∀ q ∈ [("ChairCabinet", 23, "ChairCabinet$Reader"), ("ChairCabinet$Reader", 11, "ChairCabinet$Ministers"), ("ChairCabinet$Reader", 20, "ChairCabinet$Ring"), ("ChairCabinet", 30, "ChairCabinet$Ministers"), ("ChairCabinet", 37, "ChairCabinet$Ring")], va_Nw (.methodLinkNest q.1 q.2.1 ⟨q.2.2, "<init>", "()V"⟩ "ChairCabinet") s := by
  obtain ⟨-, -, n1, n2, n3, n4, n5⟩ := hX.2.2.2.2
  intro q hq
  simp only [List.mem_cons, List.not_mem_nil, or_false] at hq
  rcases hq with rfl | rfl | rfl | rfl | rfl
  · exact n1.warmM hs
  · exact n2.warmM hs
  · exact n3.warmM hs
  · exact n4.warmM hs
  · exact n5.warmM hs
theorem sn_callN {Z : ax_M} {idx : Nat} (hret : Z.2.2.2.1 = none) (hname : Z.1 = ⟨Z.1.cls, "<init>", "()V"⟩) (hn0 : (Y.1.cls, idx, Z.1.cls) ∈ [("ChairCabinet", 23, "ChairCabinet$Reader"), ("ChairCabinet$Reader", 11, "ChairCabinet$Ministers"), ("ChairCabinet$Reader", 20, "ChairCabinet$Ring"), ("ChairCabinet", 30, "ChairCabinet$Ministers"), ("ChairCabinet", 37, "ChairCabinet$Ring")])
    (hcode : Cond.code Z.1 Z.2.1 Z.2.2.1 Z.2.2.2.1 ∈ ax_tb) (hini : Cond.initialized Z.1.cls ∈ ax_tb) (hdep : Z.2.2.2.2.1 < Y.2.2.2.2.1) (hml : Z.2.2.1 ≤ 17) (hne : Z.1.cls ≠ "java/lang/invoke/MethodHandle" ∧ Z.1.cls ≠ "java/lang/invoke/VarHandle" ∧ (parseMethodDescriptor Z.1.desc).map (fun d => d.parameters.length) = some 0) (hi : Cond.instanceMethod Z.1 ∈ ax_tb) (hd : decode Y.2.1 pc = .ok (.invokespecial idx, 3)) : ax_snd Y pc 3 (ai_callI Y.2.2.2.2.2 Z 0) := by
  intro R n κ ls st H hn ⟨h1, h2, ⟨a, ha⟩, b1, b2, v, H', hev, h⟩ X hX p l e s m args below meth c F Hm locs lsM hl hr hq g1 g2
  rw [ax_take1 h1 ha] at hev
  have hnw := ax_nestof hX F.2.2.2.2.2.2.2.1 _ hn0
  rw [← hname] at hnw
  have hcb : va_CN (ax_rm Y) s args Y.1.cls idx Z.1 "ChairCabinet" Z.2.1 Z.2.2.1 Z.2.2.2.1 (ax_ws Z) (ax_rm Z) Z.2.2.2.2.2.1 Z.2.2.2.2.2.2 0 := va_cnB 0 F.2.2.2.2.1 (ws' := ax_tb) (fun w hw => by
      rcases List.mem_cons.mp hw with rfl | hw
      · exact ax_tb_good _ hcode
      · exact ax_tb_good _ hw) rfl rfl rfl hnw (F.2.2.2.2.1 _ hini) hne ⟨by show Z.2.2.2.2.1 + 1 ≤ Y.2.2.2.2.1; omega, by show 8 + (Z.2.2.1 + 11) + (36 * Z.2.2.2.2.1 + 16) ≤ 36 * Y.2.2.2.2.1 + 16; omega⟩
  rw [hret] at hcb
  have hrun := va_runIN (H := Hm) (locs := locs) (cells := κ.1) (slots := κ.2) (l := l) (e := e) (below := below) (meth := meth) (R := ax_rm Y) (b := ax_em X a) (As := (st.take 0).reverse.map (ax_v X)) (rest := (st.drop (0 + 1)).map (ax_v X)) (g := F0 m pc lsM (st.map (ax_v X))) (ax_fixC F) (hev X hX l) ⟨hcb, by rw [hname], F.2.2.2.2.1 _ hi⟩
    ⟨ax_blind X _ _, fun U hU hW => ⟨rfl, by rw [hU]; exact hr, F.2.2.2.2.2.2.2.1.trans hW⟩⟩ rfl (by simp) hl.1 (by
      show st.map (ax_v X) = _
      conv => lhs; rw [ax_tail h1 ha]
      rw [List.map_append, List.map_reverse]
      rfl) (lv_room (ax_cats X _ h2)) hd ⟨b1, b2⟩
  refine ax_behind hrun hq fun v' H'' H1 locs1 hR hrel hq1 => ?_
  obtain ⟨rfl, rfl⟩ := hR
  rw [ax_outmap]
  exact hn _ _ _ _ h X hX p l e s m args below meth c F H1 locs1 lsM hl hrel hq1 b1 b2
theorem sn_obji {idx : Nat} (hw : Cond.methodLink Y.1.cls idx Lib.objectInit ∈ ax_tb) (hi : Cond.instanceMethod Lib.objectInit ∈ ax_tb) (hcode : Cond.code Lib.objectInit ⟨#[0xb1]⟩ 1 none ∈ ax_tb) (hdep : 1 ≤ Y.2.2.2.2.1) (hd : decode Y.2.1 pc = .ok (.invokespecial idx, 3)) : ax_snd Y pc 3 ai_obji := by
  intro R n κ ls st H hn ⟨a, r, h1, h2, h⟩ X hX p l e s m args below meth c F Hm locs lsM hl hr hq g1 g2
  subst h1
  have hc8 := ax_cats X r h2
  exact W.objInit (rest := r.map (ax_v X)) (a := ax_em X a) F.1 F.2.1 F.2.2.2.1 (F.2.2.2.2.1 _ hw) (F.2.2.2.2.1 _ hi) (F.2.2.2.2.1 _ hcode) (g := F0 m pc lsM ((Value.ref a :: r).map (ax_v X))) rfl (hl.1.trans F.2.2.1.symm) rfl hd hdep (by
    show 2 * 0 + _ + 12 ≤ 36 * Y.2.2.2.2.1 + 16
    omega) (hn _ _ _ _ h X hX p l e s m args below meth c F Hm locs lsM hl hr hq g1 g2)
end SNC
