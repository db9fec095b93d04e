/-! fields, rows, makings -/
theorem ax_vlen (X : ax_X) (vs : List Value) : (vs.map (ax_v X)).length = vs.length := List.length_map _
theorem ax_vget {X : ax_X} {vs : List Value} {k : Nat} {v : Value} (h : vs[k]? = some v) : (vs.map (ax_v X))[k]? = some (ax_v X v) := by rw [List.getElem?_map, h]; rfl
section SNH
variable {Y : ax_M} {pc : Nat}
theorem sn_getf {ci k idx : Nat} (q : vw_C) (hc : vwCl[ci]? = some q) (hk : k < q.2.2) (ht : ax_ty ci = none) (hw : Cond.fieldLink Y.1.cls idx (q.2.1 k).1 (q.2.1 k).2.1 (q.2.1 k).2.2.1 ∈ ax_tb) (hd : decode Y.2.1 pc = .ok (.getfield idx, 3)) : ax_snd Y pc 3 (ai_getf ci k) := by
  intro R n κ ls st H hn ⟨a, r, fs, v, h1, h2, h3, h⟩ X hX p l e s m args below meth c F Hm locs lsM hl hr hq g1 g2
  subst h1
  obtain ⟨r', e1, e2, e3⟩ := hr.ob ht h2
  cases hc.symm.trans e1
  refine va_get (D := (X.2.1, X.2.2.1)) (cl := vwCl) (tys := []) (ws := [(ax_em X a, .inr (ci, fs.map (ax_v X)))]) (v := ax_v X v) F.1 F.2.1 F.2.2.2.2.1 (ax_cwin q (ax_cl hc)) F.2.2.2.1 (ax_kn hX F.2.2.2.2.2.2.2.1) ?_ 0 rfl hc k hk (F.2.2.2.2.1 _ hw) (fun _ z => z) (ax_vget h3) hd (hn _ _ _ _ h X hX p l e s m args below meth c F Hm locs lsM hl hr hq g1 g2)
  intro k9 x hx
  have h0 : k9 < 1 := (List.getElem?_eq_some_iff.mp hx).1
  rw [show k9 = 0 by omega] at hx
  cases hx
  exact ⟨q, hc, e3⟩
theorem ax_put {X : ax_X} (hX : ax_ok X) {Y : ax_M} {p : Program} {l : Launch} {e : Env} {s : State} {m : MethodId} {args : Array Value} {below : List Frame} {meth : Method} {c : Code} {Rm : Room} {Q : State → Prop} (F : ax_fix Y X p s m args meth c) {Hm : Heap} {locs : List Loc} {κ1 κ2 : Nat}
    {pc ci k idx a : Nat} {H : ax_H} {fs rest : List Value} {lsM : Array Slot} {v : Value} (q : vw_C) (hc : vwCl[ci]? = some q) (hk : k < q.2.2) (ht : ax_ty ci = none) (hr : ax_rel X H Hm) (hlocs : ∀ q ∈ locs, ax_free X q.base) (h2 : ax_get H a = some (ci, fs)) (hci : ci ≠ 20)
    (hw : Cond.fieldLink Y.1.cls idx (q.2.1 k).1 (q.2.1 k).2.1 (q.2.1 k).2.2.1 ∈ ax_tb) (hfin : (q.2.1 k).2.2.2 = true → meth.name = "<init>" ∧ (q.2.1 k).1 = Y.1.cls) {ty : FieldType} (hty : parseFieldDescriptor (q.2.1 k).2.2.1 = some ty) (hnr : narrow ty (ax_v X v) = ax_v X v) (hfit : fits ty (ax_v X v) = true) (hd : decode Y.2.1 pc = .ok (.putfield idx, 3))
    (kk : ∀ (H1 : Heap) (locs1 : List Loc), ax_rel X (ax_set H a (ci, fs.set k v)) H1 → (∀ q ∈ locs1, ax_free X q.base) → W p l e Rm s m args below meth c H1 locs1 κ1 κ2 Q (F0 m (pc + 3) lsM (rest.map (ax_v X)))) :
    W p l e Rm s m args below meth c Hm locs κ1 κ2 Q (F0 m pc lsM (ax_v X v :: .ref (ax_em X a) :: rest.map (ax_v X))) := by
  obtain ⟨r', e1, e2, e3⟩ := hr.ob ht h2
  cases hc.symm.trans e1
  obtain ⟨cell, q1, q2, q3, q4⟩ := e3
  have hK := ax_kn hX F.2.2.2.2.2.2.2.1
  have hts := F.2.2.2.2.1
  have hin := ax_cwin q (ax_cl hc)
  obtain ⟨tyf, htyf⟩ := ax_cty q (ax_cl hc)
  have hap := va_apart (D := (X.2.1, X.2.2.1)) (own := Y.1.cls) hts hin tyf htyf (ax_cnm q (ax_cl hc)) hK hc
  obtain ⟨hS, hfc, kC, hkC, hkind⟩ := hK.1 ci _ hc
  obtain ⟨cf, kf, fi, f, hi, hsl⟩ := hS k hk
  have hlay := hts _ (hin _ (u_in_lay hk))
  unfold u_lay at hlay
  have hst := (u_facts hfc hkC (u_lays hts hin hk) hi).1
  have hk2 : 2 ≤ a := (hr.at h2).2 hci
  have done : ∀ H' : Heap, H'[ax_em X a]? = some (cell.setSlot f.slot (ax_v X v)) → H'.size = Hm.size → (∀ q, q ≠ ax_em X a → H'[q]? = Hm[q]?) → W p l e Rm s m args below meth c H' (locs ++ [⟨ax_em X a, f.slot⟩]) κ1 κ2 Q (F0 m (pc + 3) lsM (rest.map (ax_v X))) := by
    intro H' z1 z2 z3
    rw [hsl] at z1
    refine kk H' _ (hr.set hX h2 hci ?_ z2 z3) (fun x hx => ?_)
    · unfold ax_at
      rw [show ax_ty (ci, fs.set k v).1 = none from ht]
      refine ⟨q, hc, by simpa using e2, cell.setSlot _ _, z1, q2, q3, fun j hj => ?_⟩
      rw [t_set q4 hap hk (ax_v X v) j hj, vp_updV_set (by rw [ax_vlen]; rw [show fs.length = q.2.2 from e2]; exact hk), ← List.map_set]
    · rcases List.mem_append.mp hx with hx | hx
      · exact hlocs x hx
      · rw [List.mem_singleton.mp hx]
        exact ax_em_free hk2
  by_cases hf : (q.2.1 k).2.2.2 = true
  · obtain ⟨hin2, hdecl⟩ := hfin hf
    rw [if_pos hf] at hlay
    have hcf : m.cls = cf := by
      obtain ⟨_, _, c', _, _, _, -, -, hf', -, -, -, hown2, -⟩ := Cond.laysFinal_spec hlay
      have z1 : c' = cf := by have := hi.symm.trans hf'; simp at this; exact this.1.symm
      rw [hdecl] at hown2
      rw [← z1]; exact Option.some.inj (F.2.2.2.1.symm.trans hown2)
    have h6 := u_fits hfc hkC hkind (Or.inr hlay) hi hty hnr hfit
    exact W.putFinK F.1 F.2.1 F.2.2.2.1 (hts _ hw) hi hst hcf hin2 (by rw [q2]; exact h6) q1 q3 (by rw [hsl]; exact k2_hasslot (q4 k hk)) rfl rfl hd done
  · rw [if_neg hf] at hlay
    have h6 := u_store hfc hkC hkind hlay hi hty hnr hfit
    exact W.putK F.1 F.2.1 (f := f) ⟨F.2.2.2.1, hts _ hw, ⟨_, _, _, hi⟩, hst⟩ (by rw [q2]; exact h6) q1 q3 (by rw [hsl]; exact k2_hasslot (q4 k hk)) rfl rfl hd done
theorem sn_putI {ci k idx : Nat} (q : vw_C) (hc : vwCl[ci]? = some q) (hk : k < q.2.2) (ht : ax_ty ci = none) (hci : ci ≠ 20) (hw : Cond.fieldLink Y.1.cls idx (q.2.1 k).1 (q.2.1 k).2.1 (q.2.1 k).2.2.1 ∈ ax_tb) (hfin : (q.2.1 k).2.2.2 = true → Y.1.name = "<init>" ∧ (q.2.1 k).1 = Y.1.cls)
    (hty : parseFieldDescriptor (q.2.1 k).2.2.1 = some .int) (hd : decode Y.2.1 pc = .ok (.putfield idx, 3)) : ax_snd Y pc 3 (ai_putI ci k) := by
  intro R n κ ls st H hn ⟨x, a, r, fs, h1, h2, h⟩ X hX p l e s m args below meth c F Hm locs lsM hl hr hq g1 g2
  subst h1
  exact ax_put hX F (v := .int x) q hc hk ht hr hq h2 hci hw (fun z => ⟨F.2.2.2.2.2.2.2.2.trans (hfin z).1, (hfin z).2⟩) hty rfl rfl hd (fun H1 locs1 z1 z2 => hn _ _ _ _ h X hX p l e s m args below meth c F H1 locs1 lsM hl z1 z2 g1 g2)
theorem sn_putL {ci k idx : Nat} (q : vw_C) (hc : vwCl[ci]? = some q) (hk : k < q.2.2) (ht : ax_ty ci = none) (hci : ci ≠ 20) (hw : Cond.fieldLink Y.1.cls idx (q.2.1 k).1 (q.2.1 k).2.1 (q.2.1 k).2.2.1 ∈ ax_tb) (hfin : (q.2.1 k).2.2.2 = true → Y.1.name = "<init>" ∧ (q.2.1 k).1 = Y.1.cls)
    (hty : parseFieldDescriptor (q.2.1 k).2.2.1 = some .long) (hd : decode Y.2.1 pc = .ok (.putfield idx, 3)) : ax_snd Y pc 3 (ai_putL ci k) := by
  intro R n κ ls st H hn ⟨x, a, r, fs, h1, h2, h⟩ X hX p l e s m args below meth c F Hm locs lsM hl hr hq g1 g2
  subst h1
  exact ax_put hX F (v := .long x) q hc hk ht hr hq h2 hci hw (fun z => ⟨F.2.2.2.2.2.2.2.2.trans (hfin z).1, (hfin z).2⟩) hty rfl rfl hd (fun H1 locs1 z1 z2 => hn _ _ _ _ h X hX p l e s m args below meth c F H1 locs1 lsM hl z1 z2 g1 g2)
theorem ax_refty {ty : FieldType} (h : (∃ n, ty = .object n) ∨ ∃ t, ty = .array t) (a : Nat) : narrow ty (.ref a) = .ref a ∧ fits ty (.ref a) = true := by
  rcases h with ⟨n, rfl⟩ | ⟨t, rfl⟩ <;> exact ⟨rfl, rfl⟩
theorem sn_putR {ci k idx : Nat} (q : vw_C) (hc : vwCl[ci]? = some q) (hk : k < q.2.2) (ht : ax_ty ci = none) (hci : ci ≠ 20) (hw : Cond.fieldLink Y.1.cls idx (q.2.1 k).1 (q.2.1 k).2.1 (q.2.1 k).2.2.1 ∈ ax_tb) (hfin : (q.2.1 k).2.2.2 = true → Y.1.name = "<init>" ∧ (q.2.1 k).1 = Y.1.cls)
    {ty : FieldType} (hty : parseFieldDescriptor (q.2.1 k).2.2.1 = some ty) (hrt : (∃ n, ty = .object n) ∨ ∃ t, ty = .array t) (hd : decode Y.2.1 pc = .ok (.putfield idx, 3)) : ax_snd Y pc 3 (ai_putR ci k) := by
  intro R n κ ls st H hn ⟨x, a, r, fs, h1, h2, h⟩ X hX p l e s m args below meth c F Hm locs lsM hl hr hq g1 g2
  subst h1
  exact ax_put hX F (v := .ref x) q hc hk ht hr hq h2 hci hw (fun z => ⟨F.2.2.2.2.2.2.2.2.trans (hfin z).1, (hfin z).2⟩) hty (ax_refty hrt _).1 (ax_refty hrt _).2 hd (fun H1 locs1 z1 z2 => hn _ _ _ _ h X hX p l e s m args below meth c F H1 locs1 lsM hl z1 z2 g1 g2)
theorem ax_vm {X : ax_X} {s : State} (hs : X.1.WarmedH s.vm) {cell : Cell} {ty : FieldType} (h : X.1.isArrayOf cell ty) : s.isArrayOf cell ty := State.isArrayOf_alike hs.alike h
theorem ax_sz {X : ax_X} {cell : Cell} {vs : List Value} (h : cell.slots.toList = vs.map (ax_v X)) : cell.slots.size = vs.length := by rw [← Array.length_toList, h, List.length_map]
theorem ax_slot {X : ax_X} {cell : Cell} {vs : List Value} (h : cell.slots.toList = vs.map (ax_v X)) {j : Nat} {v : Value} (hj : vs[j]? = some v) : cell.slots[j]? = some (ax_v X v) := by
  rw [← Array.getElem?_toList, h]; exact ax_vget hj
theorem sn_gets {idx : Nat} (hw : Cond.fieldLink Y.1.cls idx "ChairCabinet$Reader" "LETTERS" "[I" ∈ ax_tb) (hd : decode Y.2.1 pc = .ok (.getstatic idx, 3)) : ax_snd Y pc 3 ai_gets := by
  intro R n κ ls st H hn h X hX p l e s m args below meth c F Hm locs lsM hl hr hq g1 g2
  obtain ⟨cf, kf, fi, f, a, cell, h1, h2, h3, h4, h5, h6, h7, h8⟩ := va_Z.moved F.2.2.2.2.2.2.2.1.alike hX.2.2.2.1
  have hlt : a < X.1.heap.size := (Array.getElem?_eq_some_iff.mp h5).1
  exact W.gets F.1 F.2.1 F.2.2.2.1 (F.2.2.2.2.1 _ hw) h1 h2 h3 h4 (by rw [hr.2.2.1 a hlt]; exact h5) (fun e => by rw [e] at h6; cases h6) h7 rfl hd (hn _ _ _ _ h X hX p l e s m args below meth c F Hm locs lsM hl hr hq g1 g2)
theorem sn_alen {tg : Nat} {ty : FieldType} (ht : ax_ty tg = some ty) (hd : decode Y.2.1 pc = .ok (.arraylength, 1)) : ax_snd Y pc 1 (ai_alen tg) := by
  intro R n κ ls st H hn ⟨a, r, vs, h1, h2, h⟩ X hX p l e s m args below meth c F Hm locs lsM hl hr hq g1 g2
  subst h1
  obtain ⟨cell, q1, q2, q3, q4, q5⟩ := hr.ar ht h2
  exact W.alen (n := nI vs.length) F.1 F.2.1 q1 (ax_vm F.2.2.2.2.2.2.2.1 q2) (by rw [ax_sz q4]; rfl) rfl rfl hd (hn _ _ _ _ h X hX p l e s m args below meth c F Hm locs lsM hl hr hq g1 g2)
theorem sn_iald {tg : Nat} (ht : ax_ty tg = some .int) (hd : decode Y.2.1 pc = .ok (.iaload, 1)) : ax_snd Y pc 1 (ai_iald tg) := by
  intro R n κ ls st H hn ⟨j, a, r, vs, v, h1, h2, h3, h4, h⟩ X hX p l e s m args below meth c F Hm locs lsM hl hr hq g1 g2
  subst h1
  obtain ⟨cell, q1, q2, q3, q4, q5⟩ := hr.ar ht h2
  have hlt := (List.getElem?_eq_some_iff.mp h4).1
  exact W.iald F.1 F.2.1 q1 (ax_vm F.2.2.2.2.2.2.2.1 q2) q3 (by rw [ax_sz q4]; rintro (z | z); exact h3 z; exact Nat.not_le.mpr hlt z) (ax_slot q4 h4) rfl rfl hd (hn _ _ _ _ h X hX p l e s m args below meth c F Hm locs lsM hl hr hq g1 g2)
theorem sn_zald (hd : decode Y.2.1 pc = .ok (.baload, 1)) : ax_snd Y pc 1 (ai_iald 22) := by
  intro R n κ ls st H hn ⟨j, a, r, vs, v, h1, h2, h3, h4, h⟩ X hX p l e s m args below meth c F Hm locs lsM hl hr hq g1 g2
  subst h1
  obtain ⟨cell, q1, q2, q3, q4, q5⟩ := hr.ar (ty := .boolean) rfl h2
  have hlt := (List.getElem?_eq_some_iff.mp h4).1
  exact W.zald F.1 F.2.1 q1 (ax_vm F.2.2.2.2.2.2.2.1 q2) q3 (by rw [ax_sz q4]; rintro (z | z); exact h3 z; exact Nat.not_le.mpr hlt z) (ax_slot q4 h4) rfl rfl hd (hn _ _ _ _ h X hX p l e s m args below meth c F Hm locs lsM hl hr hq g1 g2)
theorem sn_aald {tg : Nat} {ty : FieldType} (ht : ax_ty tg = some ty) (hrf : ty.isReference = true) (hd : decode Y.2.1 pc = .ok (.aaload, 1)) : ax_snd Y pc 1 (ai_iald tg) := by
  intro R n κ ls st H hn ⟨j, a, r, vs, v, h1, h2, h3, h4, h⟩ X hX p l e s m args below meth c F Hm locs lsM hl hr hq g1 g2
  subst h1
  obtain ⟨cell, q1, q2, q3, q4, q5⟩ := hr.ar ht h2
  have hlt := (List.getElem?_eq_some_iff.mp h4).1
  exact W.aald F.1 F.2.1 q1 (ax_vm F.2.2.2.2.2.2.2.1 q2) hrf q3 (by rw [ax_sz q4]; rintro (z | z); exact h3 z; exact Nat.not_le.mpr hlt z) (ax_slot q4 h4) rfl rfl hd (hn _ _ _ _ h X hX p l e s m args below meth c F Hm locs lsM hl hr hq g1 g2)
theorem ax_setl {X : ax_X} {cell : Cell} {vs : List Value} (h : cell.slots.toList = vs.map (ax_v X)) (j : Nat) (v : Value) : (cell.setSlot j (ax_v X v)).slots.toList = (vs.set j v).map (ax_v X) := by
  show (cell.slots.setIfInBounds j _).toList = _
  rw [Array.toList_setIfInBounds, h, List.map_set]
theorem ax_locs {X : ax_X} {locs : List Loc} (h : ∀ q ∈ locs, ax_free X q.base) {a i : Nat} (ha : ax_free X a) : ∀ q ∈ locs ++ [⟨a, i⟩], ax_free X q.base := by
  intro q hq
  rcases List.mem_append.mp hq with hq | hq
  · exact h q hq
  · rw [List.mem_singleton.mp hq]; exact ha
theorem sn_iast (hd : decode Y.2.1 pc = .ok (.iastore, 1)) : ax_snd Y pc 1 ai_iast := by
  intro R n κ ls st H hn ⟨x, j, a, r, vs, h1, h2, h3, h4, h⟩ X hX p l e s m args below meth c F Hm locs lsM hl hr hq g1 g2
  subst h1
  obtain ⟨cell, q1, q2, q3, q4, q5⟩ := hr.ar (ty := .int) rfl h2
  refine W.iast F.1 F.2.1 q1 (ax_vm F.2.2.2.2.2.2.2.1 q2) q3 (by rw [ax_sz q4]; rintro (z | z); exact h3 z; exact Nat.not_le.mpr h4 z) rfl rfl hd (fun H1 z1 z2 z3 => hn _ _ _ _ h X hX p l e s m args below meth c F H1 _ lsM hl (hr.set hX h2 (show (21 : Nat) ≠ 20 by decide) ⟨cell.setSlot _ _, z1, q2, q3, ax_setl q4 _ (.int x), ⟨fun _ v hv => ?_, fun z => (by cases z)⟩⟩ z2 z3) (ax_locs hq (ax_em_free ((hr.at h2).2 (show (21 : Nat) ≠ 20 by decide)))) g1 g2)
  rcases List.mem_or_eq_of_mem_set hv with hv | hv
  · exact q5.1 rfl v hv
  · exact ⟨x, hv⟩
theorem sn_bast (hd : decode Y.2.1 pc = .ok (.bastore, 1)) : ax_snd Y pc 1 ai_bast := by
  intro R n κ ls st H hn ⟨x, j, a, r, vs, h1, h2, hx, h3, h4, h⟩ X hX p l e s m args below meth c F Hm locs lsM hl hr hq g1 g2
  subst h1
  obtain ⟨cell, q1, q2, q3, q4, q5⟩ := hr.ar (ty := .boolean) rfl h2
  have hnr : narrow .boolean (.int x) = .int x := by rcases hx with rfl | rfl <;> rfl
  exact W.zast F.1 F.2.1 q1 (ax_vm F.2.2.2.2.2.2.2.1 q2) q3 (by rw [ax_sz q4]; rintro (z | z); exact h3 z; exact Nat.not_le.mpr h4 z) rfl rfl hd (fun H1 z1 z2 z3 => hn _ _ _ _ h X hX p l e s m args below meth c F H1 _ lsM hl (hr.set hX h2 (show (22 : Nat) ≠ 20 by decide) ⟨cell.setSlot _ _, by rw [hnr] at z1; exact z1, q2, q3, ax_setl q4 _ (.int x), ⟨fun z => (by cases z), fun z => (by cases z)⟩⟩ z2 z3) (ax_locs hq (ax_em_free ((hr.at h2).2 (show (22 : Nat) ≠ 20 by decide)))) g1 g2)
theorem sn_iret (hr0 : Y.2.2.2.1 = some .int) (hd : decode Y.2.1 pc = .ok (.ireturn, 1)) : ax_snd Y pc 1 ai_iret := by
  intro R n κ ls st H hn ⟨x, h1, h⟩ X hX p l e s m args below meth c F Hm locs lsM hl hr hq g1 g2
  subst h1
  exact W.widen g1 g2 (W.iret (v := x) F.1 F.2.1 (F.2.2.2.2.2.1.trans hr0) (fun t ht hW => ⟨some (.int x), H, rfl, h, by rw [ht]; exact hr⟩) hq hd F.2.2.2.2.2.2.1)
theorem sn_zret (hr0 : Y.2.2.2.1 = some .boolean) (hd : decode Y.2.1 pc = .ok (.ireturn, 1)) : ax_snd Y pc 1 ai_zret := by
  intro R n κ ls st H hn ⟨x, h1, hx, h⟩ X hX p l e s m args below meth c F Hm locs lsM hl hr hq g1 g2
  subst h1
  exact W.widen g1 g2 (W.zret (v := x) F.1 F.2.1 (F.2.2.2.2.2.1.trans hr0) (by rcases hx with rfl | rfl <;> rfl) (fun t ht hW => ⟨some (.int x), H, rfl, h, by rw [ht]; exact hr⟩) hq hd F.2.2.2.2.2.2.1)
theorem sn_lret (hr0 : Y.2.2.2.1 = some .long) (hd : decode Y.2.1 pc = .ok (.lreturn, 1)) : ax_snd Y pc 1 ai_lret := by
  intro R n κ ls st H hn ⟨x, h1, h⟩ X hX p l e s m args below meth c F Hm locs lsM hl hr hq g1 g2
  subst h1
  exact W.widen g1 g2 (W.lret (v := x) F.1 F.2.1 (F.2.2.2.2.2.1.trans hr0) (fun t ht hW => ⟨some (.long x), H, rfl, h, by rw [ht]; exact hr⟩) hq hd F.2.2.2.2.2.2.1)
theorem sn_vret (hr0 : Y.2.2.2.1 = none) (hd : decode Y.2.1 pc = .ok (.return_, 1)) : ax_snd Y pc 1 ai_vret := by
  intro R n κ ls st H hn ⟨h1, h⟩ X hX p l e s m args below meth c F Hm locs lsM hl hr hq g1 g2
  subst h1
  exact W.widen g1 g2 (W.vret F.1 F.2.1 (F.2.2.2.2.2.1.trans hr0) (fun t ht hW => ⟨none, H, rfl, h, by rw [ht]; exact hr⟩) hq hd F.2.2.2.2.2.2.1)
end SNH
