/-! new T[n][m] -/
theorem ax_AOA {u U : State} (hvm : u.vm.Alike U.vm) (h : (Cond.arrayOver (.array .int)).before #[] u = true) (A : Array Value) : (Cond.arrayOver (.array .int)).before A U = true := by
  have hs : ∃ comp c k, u.vm.findClass (FieldType.array .int).toString = some comp ∧ (u.vm.classes.findIdx? fun x => match x.kind with | .array component _ => component == comp | _ => false) = some c ∧ u.vm.classes[c]? = some k ∧ k.kind = .array comp (.array .int) ∧
      u.vm.findClass ("[" ++ (FieldType.array .int).toString) = some c := by
    simp only [Cond.before, Cond.holds, Cond.value, beq_iff_eq] at h
    cases hc : u.vm.findClass (FieldType.array .int).toString with
    | none => simp [hc] at h
    | some comp =>
      simp only [hc, Option.bind_some, Option.bind_eq_some_iff, Option.map_eq_some_iff] at h
      obtain ⟨c, hi, k, hk, hb⟩ := h
      obtain ⟨hlt, hp, -⟩ := Array.findIdx?_eq_some_iff_getElem.mp hi
      have hkk : u.vm.classes[c] = k := (Array.getElem?_eq_some_iff.mp hk).2
      rw [hkk] at hp
      cases hkind : k.kind with
      | array component ty =>
        rw [hkind] at hb hp
        simp at hb hp
        exact ⟨comp, c, k, rfl, hi, hk, by rw [hkind, hp, hb.1], hb.2⟩
      | _ => rw [hkind] at hb; simp at hb
  obtain ⟨comp, c, k, h1, h2, h3, h4, h5⟩ := hs
  obtain ⟨k', hk', he⟩ := hvm.2.2 _ _ h3
  have hi : (U.vm.classes.findIdx? fun (x : Class) => match x.kind with | .array component _ => component == comp | _ => false) = some c := by
    refine (va_idx_bare U.vm comp).symm.trans ?_
    first | rw [hvm.bare_eq] | rw [← hvm.bare_eq]
    exact (va_idx_bare u.vm comp).trans h2
  have hkind : k'.kind = .array comp (.array .int) := by rw [he]; exact h4
  have f1 : U.vm.findClass (FieldType.array .int).toString = some comp := by rw [hvm.findClass]; exact h1
  have f2 : U.vm.findClass ("[" ++ (FieldType.array .int).toString) = some c := by rw [hvm.findClass]; exact h5
  unfold Cond.before Cond.holds
  simp only [Cond.value]
  rw [f1, Option.bind_some]
  refine (congrArg (fun o : Option Nat => (o.bind (fun c => (U.vm.classes[c]?).map fun (k : Class) => match k.kind with | .array _ ty => decide (ty = FieldType.array .int) && decide (U.vm.findClass ("[" ++ (FieldType.array .int).toString) = some c) | _ => false) == some true)) hi).trans ?_
  simp [hk', hkind, f2]
theorem sn_mna {Y : ax_M} {pc idx : Nat} (hw1 : Cond.classLink Y.1.cls idx "[[I" ∈ ax_tb) (hw2 : Cond.arrayClass .int ∈ ax_tb) (hd : decode Y.2.1 pc = .ok (.multianewarray idx 2, 4)) : ax_snd Y pc 4 (ai_mna Y.2.2.2.2.2) := by
  intro R n κ ls st H hn ⟨k, z, r, h1, h2, h3, h4, h5, b1, b2, h⟩ X hX p l e s m args below meth c F Hm locs lsM hl hr hq g1 g2
  subst h1
  have hov : (Cond.arrayOver (.array .int)).before args s = true := ax_AOA F.2.2.2.2.2.2.2.1.alike hX.2.2.2.2.1 _
  intro T hT S
  obtain ⟨vm₁, cA, comp, -, fA, fC, hO, hI, X', step⟩ := S.multianewarray2F (ty := .int) F.1 F.2.2.2.1 (F.2.2.2.2.1 _ hw1) hov (F.2.2.2.2.1 _ hw2) (g := F0 m pc lsM ((Value.int k :: .int z :: r).map (ax_v X))) rfl (by rw [F.2.1]; exact hd) rfl h2 h3 (by omega) (by show _ * 4 ≤ _; omega) (by omega) rfl rfl b1 b2
  obtain ⟨f1, f2, f3, -⟩ := Jvm.Free.Multi.fill_facts (T.setVm vm₁) cA comp z.toNatClampNeg k.toNatClampNeg (defaultValue .int) z.toNatClampNeg
  have hold : ∀ x : Nat, x < Hm.size → (Jvm.Free.Multi.fill (T.setVm vm₁) cA comp z.toNatClampNeg k.toNatClampNeg (defaultValue .int) z.toNatClampNeg).heap[x]? = Hm[x]? := fun x hx => by
    have := Jvm.Free.Multi.fill_old (T.setVm vm₁) cA comp z.toNatClampNeg k.toNatClampNeg (defaultValue .int) (a := x) (by rw [show (T.setVm vm₁).heap = Hm from hT]; exact hx) z.toNatClampNeg
    rw [show (T.setVm vm₁).heap = Hm from hT] at this
    exact this
  have hrow : ∀ j : Nat, j < z.toNatClampNeg → (Jvm.Free.Multi.fill (T.setVm vm₁) cA comp z.toNatClampNeg k.toNatClampNeg (defaultValue .int) z.toNatClampNeg).heap[Hm.size + 1 + j]? = some (Jvm.Free.Multi.innerC comp k.toNatClampNeg (defaultValue .int)) := fun j hj => by
    have := Jvm.Free.Multi.fill_inner (T.setVm vm₁) cA comp z.toNatClampNeg k.toNatClampNeg (defaultValue .int) z.toNatClampNeg j hj
    rw [show (T.setVm vm₁).heap = Hm from hT] at this
    exact this
  rw [show (T.setVm vm₁).heap = Hm from hT] at f1 f2
  generalize hF : Jvm.Free.Multi.fill (T.setVm vm₁) cA comp z.toNatClampNeg k.toNatClampNeg (defaultValue .int) z.toNatClampNeg = Fl at X' step f1 f2 hold hrow
  have hen : ∀ j : Nat, ax_em X (H.length + j) = Hm.size + j := fun j => by
    obtain ⟨a1, a2, -⟩ := hr
    unfold ax_em
    rw [if_neg (by omega), if_neg (by omega)]
    omega
  have hrel : ax_rel X (H ++ (23, (List.range z.toNatClampNeg).map (fun i => Value.ref (H.length + 1 + i))) :: List.replicate z.toNatClampNeg (21, List.replicate k.toNatClampNeg (.int 0))) Fl.heap := by
    refine ⟨?_, ?_, fun q hq => ?_, fun j d hj => ?_⟩
    · have := hr.1
      simp only [List.length_append, List.length_cons, List.length_replicate]
      omega
    · have := hr.2.1
      simp only [List.length_append, List.length_cons, List.length_replicate]
      omega
    · have h6 := hr.1
      have h7 := hr.2.1
      rw [hold q (by omega)]
      exact hr.2.2.1 q hq
    · by_cases hl1 : j < H.length
      · rw [List.getElem?_append_left hl1] at hj
        obtain ⟨a1, a2⟩ := hr.2.2.2 j d hj
        exact ⟨a1.kept (hold _ a1.lt), a2⟩
      · rw [List.getElem?_append_right (by omega)] at hj
        obtain ⟨i, hi⟩ : ∃ i, j = H.length + i := ⟨j - H.length, by omega⟩
        subst hi
        rw [show H.length + i - H.length = i by omega] at hj
        rw [hen i]
        refine ⟨?_, fun _ => by have := hr.2.1; omega⟩
        cases i with
        | zero =>
          rw [List.getElem?_cons_zero] at hj
          cases hj
          refine ⟨_, f2, State.isArrayOf_alike (s := s) F.2.2.2.2.2.2.2.1.alike.symm (hO _ _ _).1, (hO _ _ _).2, ?_, ⟨fun q => (by cases q), fun q => (by cases q)⟩⟩
          rw [vr_outer]
          simp only [arrV, Array.toList_ofFn, List.map_map]
          apply List.ext_getElem?
          intro i
          by_cases hi : i < z.toNatClampNeg
          · rw [List.getElem?_ofFn, dif_pos hi, List.getElem?_map, List.getElem?_range hi]
            simp only [hi, if_true, va_rf, Option.map_some, Function.comp, ax_v]
            rw [show H.length + 1 + i = H.length + (1 + i) by omega, hen]
            rw [show Hm.size + (1 + i) = Hm.size + 1 + i from (Nat.add_assoc _ _ _).symm]
          · rw [List.getElem?_eq_none (by simp; omega), List.getElem?_eq_none (by simp; omega)]
        | succ i =>
          rw [List.getElem?_cons_succ] at hj
          have hi : i < z.toNatClampNeg := by
            have := (List.getElem?_eq_some_iff.mp hj).1
            simpa using this
          rw [List.getElem?_replicate, if_pos hi] at hj
          cases hj
          refine ⟨_, by rw [show Hm.size + (i + 1) = Hm.size + 1 + i by omega]; exact hrow i hi, State.isArrayOf_alike (s := s) F.2.2.2.2.2.2.2.1.alike.symm (hI _ _).1, (hI _ _).2, ?_, ⟨fun _ v hv => ⟨0, (List.mem_replicate.mp hv).2⟩, fun q => (by cases q)⟩⟩
          simp [Jvm.Free.Multi.innerC, ax_v, defaultValue]
  obtain ⟨t, a1, b9⟩ := hn _ _ _ _ h X hX p l e s m args below meth c F Fl.heap locs lsM hl hrel hq (by show κ.1 + 1 + _ ≤ _; omega) (by show κ.2 + _ + _ ≤ _; omega) Fl rfl X'
  refine ⟨t, step t ?_, b9⟩
  rw [hT, show (Hm.size : Nat) = ax_em X H.length from (ax_em_new hr).symm]
  exact a1
