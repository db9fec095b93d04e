/-! THE ABSTRACT MACHINE: a heap as a list of cells (kind, contents), addresses as places in that list; a row of instructions as what must hold ahead of it. Place 0: the script, place 1: the static row LETTERS, the rest: what the law makes, in its order. -/
theorem ax_in {w : Cond} (i : Nat) (h : lw_tbl[i]? = some w) (hg : goodWord w = true) : w ∈ lw_tbl.filter goodWord := List.mem_filter.mpr ⟨List.mem_of_getElem? h, hg⟩
def ax_tb : List Cond := lw_tbl.filter goodWord
theorem ax_tb_good : GoodIn ax_tb ax_tb := fun w h => ⟨h, good_of_word (List.mem_filter.mp h).2⟩
abbrev ax_C : Type := Nat × List Value
abbrev ax_H : Type := List ax_C
abbrev ax_L : Type := List (Option Value)
abbrev ax_B : Type := Nat × Nat
abbrev ax_K : Type := ax_B → ax_L → List Value → ax_H → Prop
abbrev ax_J : Type := Nat → ax_K
abbrev ax_R : Type := Option Value → ax_H → Prop
abbrev ax_I : Type := ax_K → ax_J → ax_R → ax_K
/-- a method: name, bytes, locals, answer's type, room in frames, cells and slots that it makes -/
abbrev ax_M : Type := MethodName × ByteArray × Nat × Option FieldType × Nat × Nat × Nat
/-- the launch's world: the state at the law's entry, classes and slots, where the script and LETTERS lie -/
abbrev ax_X : Type := State × (Nat → ClassId) × (Nat → Nat → Nat) × Nat × Nat
def ax_get (H : ax_H) (a : Nat) : Option ax_C := H[a]?
def ax_set (H : ax_H) (a : Nat) (c : ax_C) : ax_H := H.set a c
def ax_em (X : ax_X) (k : Nat) : Nat := if k = 0 then X.2.2.2.1 else if k = 1 then X.2.2.2.2 else X.1.heap.size + (k - 2)
def ax_v (X : ax_X) : Value → Value
  | .ref k => .ref (ax_em X k)
  | v => v
def ax_ty : Nat → Option FieldType
  | 20 => some .int
  | 21 => some .int
  | 22 => some .boolean
  | 23 => some (.array .int)
  | 24 => some (.object "ChairCabinet$Deeds")
  | _ => none
def ax_int (v : Value) : Prop := ∃ x : Int32, v = .int x
def ax_ex (X : ax_X) (cA : ClassId) (vs : List Value) (ty : FieldType) : Prop := (ty = .int → ∀ v ∈ vs, ax_int v) ∧ (ty = .object "ChairCabinet$Deeds" → ∃ k : Class, X.1.vm.classes[cA]? = some k ∧ k.kind = .array (X.2.1 0) (.object "ChairCabinet$Deeds"))
def ax_ar (X : ax_X) (a : Nat) (c : ax_C) (Hm : Heap) (ty : FieldType) : Prop :=
  ∃ cell : Cell, Hm[a]? = some cell ∧ X.1.isArrayOf cell ty ∧ cell.vm ≠ .unknown ∧ cell.slots.toList = c.2.map (ax_v X) ∧ ax_ex X cell.cls c.2 ty
def ax_ob (X : ax_X) (a : Nat) (c : ax_C) (Hm : Heap) : Prop :=
  ∃ r : vw_C, vwCl[c.1]? = some r ∧ c.2.length = r.2.2 ∧ t_OB a (X.2.1 c.1) r.2.2 (X.2.2.1 c.1) Hm (vp_V (c.2.map (ax_v X)))
def ax_at (X : ax_X) (a : Nat) (c : ax_C) (Hm : Heap) : Prop := match ax_ty c.1 with
  | some ty => ax_ar X a c Hm ty
  | none => ax_ob X a c Hm
def ax_rel (X : ax_X) (H : ax_H) (Hm : Heap) : Prop :=
  Hm.size + 2 = X.1.heap.size + H.length ∧ 2 ≤ H.length ∧ (∀ q : Nat, q < X.1.heap.size → Hm[q]? = X.1.heap[q]?) ∧ ∀ (k : Nat) (c : ax_C), H[k]? = some c → ax_at X (ax_em X k) c Hm ∧ (c.1 ≠ 20 → 2 ≤ k)
def ax_nest (U : State) : Prop := (Cond.arrayOver (.array .int)).before #[] U = true ∧ va_AO "ChairCabinet$Deeds" U ∧
  va_Nw (.methodLinkNest "ChairCabinet" 23 ⟨"ChairCabinet$Reader", "<init>", "()V"⟩ "ChairCabinet") U ∧
  va_Nw (.methodLinkNest "ChairCabinet$Reader" 11 ⟨"ChairCabinet$Ministers", "<init>", "()V"⟩ "ChairCabinet") U ∧
  va_Nw (.methodLinkNest "ChairCabinet$Reader" 20 ⟨"ChairCabinet$Ring", "<init>", "()V"⟩ "ChairCabinet") U ∧
  va_Nw (.methodLinkNest "ChairCabinet" 30 ⟨"ChairCabinet$Ministers", "<init>", "()V"⟩ "ChairCabinet") U ∧
  va_Nw (.methodLinkNest "ChairCabinet" 37 ⟨"ChairCabinet$Ring", "<init>", "()V"⟩ "ChairCabinet") U
def ax_ok (X : ax_X) : Prop :=
  (∀ (c : Nat) (q : vw_C), vwCl[c]? = some q → u_Kn X.1 q.1 q.2.1 q.2.2 (X.2.1 c) (X.2.2.1 c)) ∧
  X.2.2.2.1 < X.1.heap.size ∧ X.2.2.2.2 < X.1.heap.size ∧
  va_Z "ChairCabinet$Reader" "LETTERS" "[I" (.ref X.2.2.2.2) (fun q => X.1.heap.size ≤ q) X.1 X.1.heap ∧ ax_nest X.1
/-! locals -/
def ax_ll (X : ax_X) : Nat → ax_L → List (Nat × Value)
  | _, [] => []
  | i, none :: r => ax_ll X (i + 1) r
  | i, some v :: r => (i, ax_v X v) :: ax_ll X (i + 1) r
theorem ax_ll_mem (X : ax_X) : ∀ (ls : ax_L) (i j : Nat) (w : Value), (j, w) ∈ ax_ll X i ls ↔ ∃ (k : Nat) (v : Value), j = i + k ∧ ls[k]? = some (some v) ∧ w = ax_v X v
  | [], i, j, w => by simp [ax_ll]
  | none :: r, i, j, w => by
    rw [ax_ll, ax_ll_mem X r (i + 1) j w]
    constructor
    · rintro ⟨k, v, h1, h2, h3⟩
      exact ⟨k + 1, v, by omega, by simpa using h2, h3⟩
    · rintro ⟨k, v, h1, h2, h3⟩
      cases k with
      | zero => simp at h2
      | succ k => exact ⟨k, v, by omega, by simpa using h2, h3⟩
  | some u :: r, i, j, w => by
    rw [ax_ll, List.mem_cons, ax_ll_mem X r (i + 1) j w]
    constructor
    · rintro (h | ⟨k, v, h1, h2, h3⟩)
      · cases h
        exact ⟨0, u, rfl, rfl, rfl⟩
      · exact ⟨k + 1, v, by omega, by simpa using h2, h3⟩
    · rintro ⟨k, v, h1, h2, h3⟩
      cases k with
      | zero =>
        simp at h2
        subst h2
        subst h3
        exact Or.inl (by rw [h1]; rfl)
      | succ k => exact Or.inr ⟨k, v, by omega, by simpa using h2, h3⟩
theorem ax_ll_get {X : ax_X} {ls : ax_L} {lsM : Array Slot} {nL i : Nat} {v : Value} (h : lv_has lsM nL (ax_ll X 0 ls)) (hi : ls[i]? = some (some v)) : lsM[i]? = some (.val (ax_v X v)) :=
  h.2.2 (i, ax_v X v) ((ax_ll_mem X ls 0 i _).mpr ⟨i, v, by omega, hi, rfl⟩)
theorem ax_ll_sub {X : ax_X} {ls : ax_L} {lsM : Array Slot} {nL : Nat} {l : List (Nat × Value)} (h : lv_has lsM nL l) (hs : ∀ (i : Nat) (v : Value), ls[i]? = some (some v) → (i, ax_v X v) ∈ l) : lv_has lsM nL (ax_ll X 0 ls) := by
  refine ⟨h.1, h.2.1, fun q hq => ?_⟩
  obtain ⟨j, w⟩ := q
  obtain ⟨k, v, h1, h2, h3⟩ := (ax_ll_mem X ls 0 j w).mp hq
  have hj : j = k := by omega
  subst hj
  subst h3
  exact h.2.2 _ (hs _ _ h2)
def ax_dl : Option Value → Option Value
  | some (.long _) => none
  | some (.double _) => none
  | x => x
def ax_s1 : ax_L → Nat → Value → ax_L
  | [], _, _ => []
  | _ :: r, 0, v => some v :: r
  | x :: r, 1, v => ax_dl x :: ax_s1 r 0 v
  | x :: r, i + 2, v => x :: ax_s1 r (i + 1) v
def ax_s2 : ax_L → Nat → Value → ax_L
  | _ :: _ :: r, 0, v => some v :: none :: r
  | x :: r, 1, v => ax_dl x :: ax_s2 r 0 v
  | x :: r, i + 2, v => x :: ax_s2 r (i + 1) v
  | _, _, _ => []
theorem ax_dl_spec {x : Option Value} {u : Value} (h : ax_dl x = some u) : x = some u ∧ u.category ≠ 2 := by
  cases x with
  | none => simp [ax_dl] at h
  | some w => cases w <;> simp [ax_dl] at h <;> subst h <;> simp [Value.category]
theorem ax_s1_spec : ∀ (ls : ax_L) (i : Nat) (v : Value) (j : Nat) (u : Value), (ax_s1 ls i v)[j]? = some (some u) → (j = i ∧ u = v) ∨ (j ≠ i ∧ ls[j]? = some (some u) ∧ (j + 1 = i → u.category ≠ 2))
  | [], i, v, j, u, h => by simp [ax_s1] at h
  | x :: r, 0, v, j, u, h => by
    cases j with
    | zero => simp [ax_s1] at h; exact Or.inl ⟨rfl, h.symm⟩
    | succ j => simp [ax_s1] at h; exact Or.inr ⟨by omega, by simpa using h, by omega⟩
  | x :: r, 1, v, j, u, h => by
    cases j with
    | zero =>
      simp [ax_s1] at h
      obtain ⟨h1, h2⟩ := ax_dl_spec h
      exact Or.inr ⟨by omega, by simpa using h1, fun _ => h2⟩
    | succ j =>
      simp [ax_s1] at h
      rcases ax_s1_spec r 0 v j u h with ⟨a, b⟩ | ⟨a, b, c⟩
      · exact Or.inl ⟨by omega, b⟩
      · exact Or.inr ⟨by omega, by simpa using b, by omega⟩
  | x :: r, i + 2, v, j, u, h => by
    cases j with
    | zero => simp [ax_s1] at h; exact Or.inr ⟨by omega, by simpa using h, by omega⟩
    | succ j =>
      simp [ax_s1] at h
      rcases ax_s1_spec r (i + 1) v j u h with ⟨a, b⟩ | ⟨a, b, c⟩
      · exact Or.inl ⟨by omega, b⟩
      · exact Or.inr ⟨by omega, by simpa using b, fun e => c (by omega)⟩
theorem ax_s2_spec : ∀ (ls : ax_L) (i : Nat) (v : Value) (j : Nat) (u : Value), (ax_s2 ls i v)[j]? = some (some u) → (j = i ∧ u = v) ∨ (j ≠ i ∧ j ≠ i + 1 ∧ ls[j]? = some (some u) ∧ (j + 1 = i → u.category ≠ 2))
  | [], i, v, j, u, h => by cases i <;> simp [ax_s2] at h
  | [x], 0, v, j, u, h => by simp [ax_s2] at h
  | x :: y :: r, 0, v, j, u, h => by
    match j, h with
    | 0, h => simp [ax_s2] at h; exact Or.inl ⟨rfl, h.symm⟩
    | 1, h => simp [ax_s2] at h
    | j + 2, h => simp [ax_s2] at h; exact Or.inr ⟨by omega, by omega, by simpa using h, by omega⟩
  | x :: r, 1, v, j, u, h => by
    cases j with
    | zero =>
      simp [ax_s2] at h
      obtain ⟨h1, h2⟩ := ax_dl_spec h
      exact Or.inr ⟨by omega, by omega, by simpa using h1, fun _ => h2⟩
    | succ j =>
      simp [ax_s2] at h
      rcases ax_s2_spec r 0 v j u h with ⟨a, b⟩ | ⟨a, a', b, c⟩
      · exact Or.inl ⟨by omega, b⟩
      · exact Or.inr ⟨by omega, by omega, by simpa using b, by omega⟩
  | x :: r, i + 2, v, j, u, h => by
    cases j with
    | zero => simp [ax_s2] at h; exact Or.inr ⟨by omega, by omega, by simpa using h, by omega⟩
    | succ j =>
      simp [ax_s2] at h
      rcases ax_s2_spec r (i + 1) v j u h with ⟨a, b⟩ | ⟨a, a', b, c⟩
      · exact Or.inl ⟨by omega, b⟩
      · exact Or.inr ⟨by omega, by omega, by simpa using b, fun e => c (by omega)⟩
theorem ax_cat (X : ax_X) (v : Value) : (ax_v X v).category = v.category := by cases v <;> rfl
theorem ax_s1_has {X : ax_X} {ls : ax_L} {lsM' : Array Slot} {nL i : Nat} {v : Value}
    (h : lv_has lsM' nL ((i, ax_v X v) :: (ax_ll X 0 ls).filter (fun q => !(q.1 == i) && !(q.1 + 1 == i && q.2.category == 2)))) : lv_has lsM' nL (ax_ll X 0 (ax_s1 ls i v)) := by
  refine ax_ll_sub h fun j u hj => ?_
  rcases ax_s1_spec ls i v j u hj with ⟨a, b⟩ | ⟨a, b, c⟩
  · rw [a, b]; exact List.mem_cons_self
  · refine List.mem_cons_of_mem _ (List.mem_filter.mpr ⟨(ax_ll_mem X ls 0 j _).mpr ⟨j, u, by omega, b, rfl⟩, ?_⟩)
    simp only [ax_cat, Bool.and_eq_true, Bool.not_eq_true', beq_eq_false_iff_ne, ne_eq, Bool.and_eq_false_iff]
    refine ⟨a, ?_⟩
    by_cases e : j + 1 = i
    · exact Or.inr (c e)
    · exact Or.inl e
theorem ax_s2_has {X : ax_X} {ls : ax_L} {lsM' : Array Slot} {nL i : Nat} {v : Value}
    (h : lv_has lsM' nL ((i, ax_v X v) :: (ax_ll X 0 ls).filter (fun q => !(q.1 == i) && (!(q.1 == i + 1) && !(q.1 + 1 == i && q.2.category == 2))))) : lv_has lsM' nL (ax_ll X 0 (ax_s2 ls i v)) := by
  refine ax_ll_sub h fun j u hj => ?_
  rcases ax_s2_spec ls i v j u hj with ⟨a, b⟩ | ⟨a, a', b, c⟩
  · rw [a, b]; exact List.mem_cons_self
  · refine List.mem_cons_of_mem _ (List.mem_filter.mpr ⟨(ax_ll_mem X ls 0 j _).mpr ⟨j, u, by omega, b, rfl⟩, ?_⟩)
    simp only [ax_cat, Bool.and_eq_true, Bool.not_eq_true', beq_eq_false_iff_ne, ne_eq, Bool.and_eq_false_iff]
    refine ⟨a, a', ?_⟩
    by_cases e : j + 1 = i
    · exact Or.inr (c e)
    · exact Or.inl e
/-! a method's walk, from any of its rows -/
def ax_rm (Y : ax_M) : Room := { frames := Y.2.2.2.2.1, cells := Y.2.2.2.2.2.1, slots := Y.2.2.2.2.2.2, locals := 36 * Y.2.2.2.2.1 + 16 }
def ax_free (X : ax_X) : Addr → Prop := fun q => X.1.heap.size ≤ q
def ax_Qc (X : ax_X) (R : ax_R) : Array Value → State → Outcome → State → Prop := fun _ _ o t => ∃ (v : Option Value) (H' : ax_H), o = .returned (v.map (ax_v X)) ∧ R v H' ∧ ax_rel X H' t.heap
def ax_Pc (X : ax_X) (as : List Value) (H : ax_H) : Array Value → State → Prop := fun a U => a = (as.map (ax_v X)).toArray ∧ ax_rel X H U.heap ∧ X.1.WarmedH U.vm
def ax_ws (Y : ax_M) : List Cond := .code Y.1 Y.2.1 Y.2.2.1 Y.2.2.2.1 :: ax_tb
def ax_ev (Y : ax_M) (as : List Value) (H : ax_H) (v : Option Value) (H' : ax_H) : Prop :=
  ∀ X : ax_X, ax_ok X → ∀ l : Launch, Met l Y.1 (ax_ws Y) (ax_rm Y) (ax_Pc X as H) (ax_Qc X (fun v' H'' => v' = v ∧ H'' = H')) Y.2.2.2.2.2.1 Y.2.2.2.2.2.2 (ax_free X)
def ax_fix (Y : ax_M) (X : ax_X) (p : Program) (s : State) (m : MethodId) (args : Array Value) (meth : Method) (c : Code) : Prop :=
  p.tables.exec = Jvm.exec ∧ c.code = Y.2.1 ∧ c.maxLocals = Y.2.2.1 ∧ s.vm.findClass Y.1.cls = some m.cls ∧ (∀ w ∈ ax_tb, w.before args s = true) ∧ meth.sig.returnType = Y.2.2.2.1 ∧ meth.locks = false ∧ X.1.WarmedH s.vm ∧ meth.name = Y.1.name
def ax_go (Y : ax_M) (R : ax_R) : ax_J := fun pc κ ls st H => ∀ X : ax_X, ax_ok X → ∀ (p : Program) (l : Launch) (e : Env) (s : State) (m : MethodId) (args : Array Value) (below : List Frame) (meth : Method) (c : Code), ax_fix Y X p s m args meth c →
  ∀ (Hm : Heap) (locs : List Loc) (lsM : Array Slot), lv_has lsM Y.2.2.1 (ax_ll X 0 ls) → ax_rel X H Hm → (∀ q ∈ locs, ax_free X q.base) → κ.1 ≤ Y.2.2.2.2.2.1 → κ.2 ≤ Y.2.2.2.2.2.2 →
  W p l e (ax_rm Y) s m args below meth c Hm locs κ.1 κ.2 (MQ below (ax_Qc X R) args s Y.2.2.2.2.2.1 Y.2.2.2.2.2.2 (ax_free X)) (F0 m pc lsM (st.map (ax_v X)))
def ax_snd (Y : ax_M) (pc len : Nat) (i : ax_I) : Prop := ∀ (R : ax_R) (n : ax_K) (κ : ax_B) (ls : ax_L) (st : List Value) (H : ax_H),
  (∀ κ' ls' st' H', n κ' ls' st' H' → ax_go Y R (pc + len) κ' ls' st' H') → i n (ax_go Y R) R κ ls st H → ax_go Y R pc κ ls st H
def ax_run : List ax_I → ax_J → ax_R → ax_K
  | [], _, _ => fun _ _ _ _ => False
  | i :: r, j, R => i (ax_run r j R) j R
def ax_sndL (Y : ax_M) (pc : Nat) (L : List ax_I) : Prop := ∀ (R : ax_R) (κ : ax_B) (ls : ax_L) (st : List Value) (H : ax_H), ax_run L (ax_go Y R) R κ ls st H → ax_go Y R pc κ ls st H
theorem ax_nil {Y : ax_M} {pc : Nat} : ax_sndL Y pc [] := fun _ _ _ _ _ h => h.elim
theorem ax_cons {Y : ax_M} {pc len : Nat} {i : ax_I} {L : List ax_I} (h1 : ax_snd Y pc len i) (h2 : ax_sndL Y (pc + len) L) : ax_sndL Y pc (i :: L) :=
  fun R κ ls st H h => h1 R _ κ ls st H (fun _ _ _ _ h' => h2 R _ _ _ _ h') h
/-- dead locals may be forgotten -/
theorem ax_weak {Y : ax_M} {R : ax_R} {pc : Nat} {κ : ax_B} {ls ls' : ax_L} {st : List Value} {H : ax_H} (h : ∀ (i : Nat) (v : Value), ls'[i]? = some (some v) → ls[i]? = some (some v)) (k : ax_go Y R pc κ ls' st H) : ax_go Y R pc κ ls st H :=
  fun X hX p l e s m args below meth c F Hm locs lsM hl hr hq h1 h2 => k X hX p l e s m args below meth c F Hm locs lsM (ax_ll_sub hl fun i v hi => (ax_ll_mem X ls 0 i _).mpr ⟨i, v, by omega, h i v hi, rfl⟩) hr hq h1 h2
theorem ax_post {Y : ax_M} {R R' : ax_R} {pc : Nat} {κ : ax_B} {ls : ax_L} {st : List Value} {H : ax_H} (h : ∀ v H', R v H' → R' v H') (k : ax_go Y R pc κ ls st H) : ax_go Y R' pc κ ls st H := by
  intro X hX p l e s m args below meth c F Hm locs lsM hl hr hq h1 h2 T hT S
  obtain ⟨t, a1, o, b1, b2, ⟨v, H', c1, c2, c3⟩, b4⟩ := k X hX p l e s m args below meth c F Hm locs lsM hl hr hq h1 h2 T hT S
  exact ⟨t, a1, o, b1, b2, ⟨v, H', c1, h _ _ c2, c3⟩, b4⟩
