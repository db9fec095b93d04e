/-! THE CLAIM OUT OF ONE WALK OF THE LAW'S BODY. Your part is whole_start (and what it stands on); all else here is the same for every law, but numbers. -/
def R_law : String := "ChairCabinetLaw"
def lw_P (b : Addr) (xs : List Int32) (args : Array Value) (s : State) : Prop := args = #[.ref b] ∧ s.IntsAt b xs ∧ xs.length ≤ 260 ∧ (Jvm.Cond.and given_1 narrow_1).before args s = true
def lw_Q (_ : Array Value) (s : State) (o : Outcome) (t : State) : Prop := o = .returned (some (.int 1)) ∧ Framed s o t [] 600000 7302250
def lw_Z (below : List Frame) (a : Array Value) (s : State) : State → Prop := fun t => ∃ o, t.status = .running ∧ Ended t below o ∧ lw_Q a s o t
/-- the law's own end, with 1 on the stack, nothing written that was there before, its room as the claim has it -/
theorem lw_ret {p : Program} {l : Launch} {e : Env} {s : State} {m : MethodId} {below : List Frame} {meth : Method} {c : Code} {b : Nat} (hx : p.tables.exec = Jvm.exec) (hb : c.code = code) (hr : meth.sig.returnType = ret) (hlocks : meth.locks = false) {pc : Nat} {H : Heap} {ls : Array Slot} (hdg : decode code pc = .ok (.ireturn, 1)) : W p l e room_1 s m #[Value.ref b] below meth c H [] 600000 7302250 (lw_Z below #[Value.ref b] s) (F0 m pc ls [.int 1]) := by
  intro T hT X
  obtain ⟨fs, hret, hrun, hended, hW, hframe⟩ := X.leave (v := some (.int 1)) (hlocks := hlocks) (fun h => by rw [hr] at h; cases h)
  have hmeth' : T.vm.method? m = some meth := X.method'
  refine ⟨T.setFrames fs, ?_, .returned (some (.int 1)), hrun, hended, rfl, ⟨_, rfl⟩, hW, hframe⟩
  jvm_step X.here [X.here.top, hx, hb, hdg, hmeth', hr, ret, narrow_b1]
  (try refine ⟨rfl, ?_⟩); (try refine ⟨rfl, ?_⟩)
  first | (intro acts; rw [hret _ acts rfl rfl rfl]) | rw [hret _ _ rfl rfl rfl]
  exact Steps.refl _
/-- what holds at the law's entry: the machine, the code, the tables' words (any of lw_tbl by 'hts w (by decide +kernel)'), the script of L ints xs at the cell b, what the Statement gives of the start (any of its parts by flat_of_before) -/
def lw_At (p : Program) (s : State) (m : MethodId) (meth : Method) (c : Code) (b L : Nat) (xs : Nat → Int32) : Prop :=
  p.tables.exec = Jvm.exec ∧ c.code = code ∧ meth.sig.returnType = ret ∧ c.maxLocals = 26 ∧ s.vm.findClass R_law = some m.cls ∧ (∀ w ∈ lw_tbl, w.before #[Value.ref b] s = true) ∧ va_X b L xs s s.heap ∧ b < s.heap.size ∧ meth.locks = false ∧ (Jvm.Cond.and given_1 narrow_1).before #[Value.ref b] s = true
/-- an array of ints that nobody writes, whole: its cell and what is in it -/
theorem ax_arr {args : Array Value} {s : State} {tm : Term} {N : Nat} {fs : List Value} (hN : N < 2 ^ 31) (hf : fs.length = N) (harr : (Cond.arrayOf tm .int).before args s = true) (hlen : (Term.length tm).eval args s none [] s = some (.int (Int32.ofNat N))) (hel : ∀ j : Nat, j < N → (Term.elem tm (.int (Int32.ofNat j))).eval args s none [] s = some (fs.getD j .null)) : ∃ (t : Nat) (cell : Cell), tm.eval args s none [] s = some (.ref t) ∧ s.heap[t]? = some cell ∧ s.isArrayOf cell .int ∧ cell.vm ≠ .unknown ∧ cell.slots.toList = fs := by
  obtain ⟨t, cell, ht, hat, hv⟩ := Term.length_spec hlen
  have hsz : cell.slots.size < 2 ^ 31 := by
    simp only [Term.eval, ht, hat, Option.bind_eq_bind, Option.bind_some] at hlen
    by_cases hlt : cell.slots.size < 2147483648
    · exact hlt
    · simp [hlt] at hlen
  obtain ⟨hcell, hkn, -, -⟩ := State.arrayAt?_spec hat
  obtain ⟨hof, -⟩ := Cond.arrayOf_spec harr ht hcell
  have hn : cell.slots.size = N := by
    have h1 : Int32.ofNat N = Int32.ofNat cell.slots.size := Value.int.inj hv
    have h2 := congrArg Int32.toNatClampNeg h1
    rw [Int32.toNatClampNeg_ofNat_of_lt hN, Int32.toNatClampNeg_ofNat_of_lt hsz] at h2
    exact h2.symm
  obtain ⟨t2, ht2, cell2, c1, -, -, -, -, c6, -⟩ := va_Tof (A := fun q => s.heap.size ≤ q) (f := fun j => fs.getD j .null) hN harr hlen hel (fun a h g => absurd h (Nat.not_lt.mpr g))
  cases ht.symm.trans ht2
  cases hcell.symm.trans c1
  refine ⟨t, cell, ht, hcell, hof, hkn, List.ext_getElem? fun i => ?_⟩
  rw [Array.getElem?_toList]
  by_cases hi : i < N
  · rw [c6 i hi]
    show some (fs.getD i .null) = fs[i]?
    rw [List.getD_eq_getElem?_getD, List.getElem?_eq_getElem (by omega)]
    rfl
  · rw [Array.getElem?_eq_none (by omega), List.getElem?_eq_none (by omega)]
theorem ax_inst : ∀ q ∈ vwCl, ∃ n, Cond.instantiable q.1 n ∈ ax_tb := List.forall_mem_cons.mpr ⟨⟨_, wd_159⟩, List.forall_mem_cons.mpr ⟨⟨_, wd_78⟩, List.forall_mem_cons.mpr ⟨⟨_, wd_72⟩, List.forall_mem_cons.mpr ⟨⟨_, wd_109⟩, List.forall_mem_cons.mpr ⟨⟨_, wd_47⟩, List.forall_mem_cons.mpr ⟨⟨_, wd_39⟩, fun _ h => absurd h List.not_mem_nil⟩⟩⟩⟩⟩⟩
theorem ax_ids {args : Array Value} {s : State} (hts : ∀ w ∈ ax_tb, w.before args s = true) : ∃ f : Nat → ClassId × (Nat → Nat), ∀ (c : Nat) (q : vw_C), vwCl[c]? = some q → u_Kn s q.1 q.2.1 q.2.2 (f c).1 (f c).2 := by
  have h0 : ∀ c : Nat, ∃ z : ClassId × (Nat → Nat), ∀ q : vw_C, vwCl[c]? = some q → u_Kn s q.1 q.2.1 q.2.2 z.1 z.2 := by
    intro c
    cases hq : vwCl[c]? with
    | none => exact ⟨(0, fun _ => 0), fun q h => by cases h⟩
    | some q =>
      have hm := List.mem_of_getElem? hq
      obtain ⟨n, hn⟩ := ax_inst q hm
      obtain ⟨cC, iS, hk⟩ := u_known (ws := ax_tb) hts (ax_cwin q hm) (hts _ hn)
      exact ⟨(cC, iS), fun q' h => by cases h; exact hk⟩
  obtain ⟨f, hf⟩ := Classical.axiomOfChoice h0
  exact ⟨f, hf⟩
theorem ax_nests {b : Nat} {s : State} (hts : ∀ w ∈ lw_tbl, w.before #[Value.ref b] s = true) : ax_nest s := by
  refine ⟨hts (.arrayOver (.array .int)) (List.mem_of_getElem? (i := 53) (by decide +kernel)), va_AO.of (hts _ (List.mem_of_getElem? (i := 173) (by decide +kernel))), ?_, ?_, ?_, ?_, ?_⟩
  · exact va_Nw.of rfl (hts _ (List.mem_of_getElem? (i := 73) (by decide +kernel)))
  · exact va_Nw.of rfl (hts _ (List.mem_of_getElem? (i := 79) (by decide +kernel)))
  · exact va_Nw.of rfl (hts _ (List.mem_of_getElem? (i := 110) (by decide +kernel)))
  · exact va_Nw.of rfl (hts _ (List.mem_of_getElem? (i := 155) (by decide +kernel)))
  · exact va_Nw.of rfl (hts _ (List.mem_of_getElem? (i := 157) (by decide +kernel)))
theorem ax_ints {xs : List Int32} {X : ax_X} : (iv xs).map (ax_v X) = iv xs := by
  unfold iv
  rw [List.map_map]
  rfl
theorem ax_iex {X : ax_X} {cA : ClassId} {vs : List Value} (h : ∀ v ∈ vs, ax_int v) : ax_ex X cA vs .int := ⟨fun _ => h, fun h => by cases h⟩
theorem iv_int {xs : List Int32} : ∀ v ∈ iv xs, ax_int v := fun v h => by
  obtain ⟨x, -, e⟩ := List.mem_map.mp h
  exact ⟨x, e.symm⟩
theorem fLt_iv : fLt = iv [109, 111, 108, 100, 97, 121] := rfl
/-- YOUR PART: from the entry, for every script of at most 260 ints, the law comes to its end with true; also told: the method's name -/
theorem whole_start {p : Program} {e : Env} {s : State} {m : MethodId} {below : List Frame} {meth : Method} {c : Code} (l : Launch) (hflags : l.flags = flags0) {b L : Nat} {xs : Nat → Int32} (hL : L ≤ 260) (C0 : lw_At p s m meth c b L xs) (hname : meth.name = x.name) : W p l e room_1 s m #[Value.ref b] below meth c s.heap [] 0 0 (lw_Z below #[Value.ref b] s) (entryFrame m ([Value.ref b] : List Value).toArray 26) := by
  obtain ⟨hx, hb, hr, hml, hown, hts, hX, hbl, hlk, hgv⟩ := C0
  have hg : ∀ w ∈ ax_tb, w.before #[Value.ref b] s = true := fun w hw => hts w (List.mem_filter.mp hw).1
  have hs := flat_of_before _ hgv
  obtain ⟨t, cl, t0, t1, t2, t3, t4⟩ := ax_arr (args := #[Value.ref b]) (s := s) (tm := .static "ChairCabinet$Reader" "LETTERS" "[I") (N := 6) (fs := fLt) (by decide) rfl (hs _ (by decide +kernel)) (va_eqt (hs (.eq (.length (.static "ChairCabinet$Reader" "LETTERS" "[I")) (.int 6)) (by decide +kernel))) (fun j hj => by
    match j, hj with
    | 0, _ => exact va_eqt (hs (.eq (.elem (.static "ChairCabinet$Reader" "LETTERS" "[I") (.int 0)) (.int 109)) (by decide +kernel))
    | 1, _ => exact va_eqt (hs (.eq (.elem (.static "ChairCabinet$Reader" "LETTERS" "[I") (.int 1)) (.int 111)) (by decide +kernel))
    | 2, _ => exact va_eqt (hs (.eq (.elem (.static "ChairCabinet$Reader" "LETTERS" "[I") (.int 2)) (.int 108)) (by decide +kernel))
    | 3, _ => exact va_eqt (hs (.eq (.elem (.static "ChairCabinet$Reader" "LETTERS" "[I") (.int 3)) (.int 100)) (by decide +kernel))
    | 4, _ => exact va_eqt (hs (.eq (.elem (.static "ChairCabinet$Reader" "LETTERS" "[I") (.int 4)) (.int 97)) (by decide +kernel))
    | 5, _ => exact va_eqt (hs (.eq (.elem (.static "ChairCabinet$Reader" "LETTERS" "[I") (.int 5)) (.int 121)) (by decide +kernel)))
  have htl : t < s.heap.size := (Array.getElem?_eq_some_iff.mp t1).1
  obtain ⟨f, hf⟩ := ax_ids hg
  obtain ⟨scr, s1, s2, s3, s4, s5⟩ := hX
  have hys : ((List.range L).map xs).length = L := by rw [List.length_map, List.length_range]
  have hsl : scr.slots.toList = iv ((List.range L).map xs) := by
    refine List.ext_getElem? fun i => ?_
    rw [Array.getElem?_toList]
    by_cases hi : i < L
    · rw [s5 i hi]
      unfold iv
      simp [hi]
    · rw [Array.getElem?_eq_none (by omega), List.getElem?_eq_none (by rw [iv_len, hys]; omega)]
  have hok : ax_ok (s, fun k => (f k).1, fun k => (f k).2, b, t) := ⟨hf, hbl, htl, va_Zref (hts (.laysStatic "ChairCabinet$Reader" "LETTERS" "[I") (List.mem_of_getElem? (i := 614) (by decide +kernel))) (hts (.initialized "ChairCabinet$Reader") (List.mem_of_getElem? (i := 31) (by decide +kernel))) t0 (fun a h g => absurd h (Nat.not_lt.mpr g)), ax_nests hts⟩
  generalize hX0 : ((s, fun k => (f k).1, fun k => (f k).2, b, t) : ax_X) = X at hok
  have hXs : X.1 = s := by rw [← hX0]
  have hXb : X.2.2.2.1 = b := by rw [← hX0]
  have hXt : X.2.2.2.2 = t := by rw [← hX0]
  have e0 : ax_em X 0 = b := hXb
  have e1 : ax_em X 1 = t := hXt
  have hrel : ax_rel X [(20, iv ((List.range L).map xs)), (20, fLt)] s.heap := by
    refine ⟨by rw [hXs]; rfl, Nat.le_refl 2, fun q _ => by rw [hXs], fun k cc hk => ?_⟩
    match k, hk with
    | 0, hk =>
      cases hk
      refine ⟨⟨scr, by rw [e0]; exact s1, by rw [hXs]; exact s2, s3, by rw [hsl]; exact ax_ints.symm, ax_iex iv_int⟩, fun h => absurd rfl h⟩
    | 1, hk =>
      cases hk
      refine ⟨⟨cl, by rw [e1]; exact t1, by rw [hXs]; exact t2, t3, by rw [t4]; rfl, ax_iex (by rw [fLt_iv]; exact iv_int)⟩, fun h => absurd rfl h⟩
    | k + 2, hk => exact absurd hk (by simp)
  have hlo := lv_entry [Value.ref b] (n := 26) (Nat.le_of_ble_eq_true rfl)
  rw [lg_entry_eq]
  have K := lw_all (ys := (List.range L).map xs) (by rw [hys]; omega) X hok p l e s m #[Value.ref b] below meth c ⟨hx, hb, hml, hown, hg, hr, hlk, by rw [hXs]; exact State.WarmedH.refl s, hname⟩ s.heap [] _ (ax_ll_sub hlo (fun i v hi => by
    match i, hi with
    | 0, hi => cases hi; show (0, Value.ref (ax_em X 0)) ∈ _; rw [e0]; exact List.mem_cons_self
    | i + 1, hi =>
      have h2 : (List.replicate 25 (none : Option Value))[i]? = some (some v) := hi
      rw [List.getElem?_replicate] at h2
      split at h2 <;> cases h2)) hrel (fun q hq => by simp at hq) (Nat.zero_le _) (Nat.zero_le _)
  intro T hT S
  obtain ⟨u, st, o, r1, r2, ⟨v, H', ho, hv, -⟩, Lq, fe, hfree⟩ := K T hT S
  refine ⟨u, st, o, r1, r2, ?_, ?_⟩
  · rw [ho, hv]; rfl
  · exact ⟨fe.1, fe.2.1, State.sameButNew.drop_fresh (L := []) fe.2.2 (fun y hy => by have := hfree y hy; rw [← hXs]; exact this)⟩
set_option maxHeartbeats 4000000 in
theorem lw_walk (l : Launch) (hflags : l.flags = flags0) (b : Addr) (xs : List Int32) : MetFree l x (headSpec (Jvm.Cond.code x code maxLocals ret :: tables_1) room_1) (lw_P b xs) (fun _ _ _ _ _ => True) lw_Q := by
  refine MetFree.of_bodyS (code := code) (maxLocals := maxLocals) (ret := ret) (by decide) ?_ ?_
  · intro args s m h hn
    obtain ⟨meth, c, h1, h2, h3, h4, h5, h6, -, -⟩ := Cond.code_spec hn (atoms_spec (ws := Jvm.Cond.code x code maxLocals ret :: tables_1) h _ List.mem_cons_self)
    exact ⟨meth, c, h1, h2, h3, h4, h5, h6⟩
  · intro p e s m args below meth c s₁ B hml0 hP _
    obtain ⟨rfl, hx, hbd, hgv⟩ := hP
    obtain ⟨scr, harrAt, hlist, hof, hsmall⟩ := hx
    obtain ⟨hcb, hkn, -, -⟩ := State.arrayAt?_spec harrAt
    have hown : s.vm.findClass R_law = some m.cls := findClass_of_methodNamed B.named
    have hts0 : ∀ c ∈ (Jvm.Cond.code x code maxLocals ret :: tables_1), c.before #[Value.ref b] s = true := atoms_spec (ws := Jvm.Cond.code x code maxLocals ret :: tables_1) B.pre
    have hts : ∀ w ∈ lw_tbl, w.before #[Value.ref b] s = true := k2_hts_sels lw_privs (fun w hw => hts0 w (List.mem_cons_of_mem _ hw)) lw_privs_ok
    have hml : c.maxLocals = 26 := B.maxLocals_eq (hts0 _ List.mem_cons_self)
    have X₀ : Stand p l e room_1 s m #[Value.ref b] below meth c s₁ [] 0 0 := Stand.of_body B
    have hh0 : s₁.heap = s.heap := by rw [B.state]; rfl
    have hsz : scr.slots.size = xs.length := by rw [← Array.length_toList, hlist, List.length_map]
    have hval : ∀ j : Nat, j < xs.length → scr.slots[j]? = some (.int (xs.getD j 0)) := fun j hj => by
      rw [← Array.getElem?_toList, hlist]
      simp [hj]
    have hbl : b < s.heap.size := (Array.getElem?_eq_some_iff.mp hcb).1
    have hX : va_X b xs.length (fun j => xs.getD j 0) s s.heap := ⟨scr, hcb, hof, hkn, hsz, hval⟩
    have K : W p l e room_1 s m #[Value.ref b] below meth c s₁.heap [] 0 0 (lw_Z below #[Value.ref b] s) (entryFrame m ([Value.ref b] : List Value).toArray 26) := by
      rw [hh0]
      exact whole_start l hflags hbd ⟨B.exec, B.bytes, B.returns, hml, hown, hts, hX, hbl, B.notSynchronized, hgv⟩ (name_of_methodNamed B.named B.method).1
    obtain ⟨t, a1, o, b1, b2, b3⟩ := K s₁ rfl X₀
    exact ⟨t, o, a1, b1, b2, b3⟩
theorem lw_pre_spec {args : Array Value} {s : State} (h : (Jvm.Cond.and given_1 narrow_1).before args s = true) (hr : rest_1_c.before args s = true) : ∃ (b : Addr) (xs : List Int32), lw_P b xs args s := by
  have hs := flat_of_before _ h
  have hq := flat_of_before _ hr
  have hc : (Cond.count 1).before args s = true := hs _ (by decide +kernel)
  have harr : (Cond.arrayOf (.arg 0) .int).before args s = true := hs _ (by decide +kernel)
  have hle : (Cond.le (.length (.arg 0)) (.int 260)).before args s = true := hs _ (by decide +kernel)
  have hlen : (Cond.isInt (.length (.arg 0))).before args s = true := hq _ (by decide +kernel)
  have hall : (Cond.all (.arg 0) (.isInt (.elem (.arg 0) (.index 0)))).before args s = true := hq _ (by decide +kernel)
  obtain ⟨b, xs, hb, hx⟩ := State.ints_of_pre rfl harr hlen hall
  have hsm : xs.length < 2 ^ 31 := hx.choose_spec.2.2.2
  have hev : (Term.length (.arg 0)).eval args s none [] s = some (.int xs.length.toInt32) := hx.length_eval hb
  have hv := Cond.le_ints hev (show (Term.int 260).eval args s none [] s = some (.int 260) from rfl)
  have hd : xs.length.toInt32 ≤ 260 := by
    simpa [Cond.before, Cond.holds, hv] using hle
  have hN : xs.length ≤ 260 := (Int32.ofNat_le_ofNat hsm (by decide)).mp (show Int32.ofNat xs.length ≤ Int32.ofNat 260 from hd)
  exact ⟨b, xs, Cond.one_arg hc (show args[0]? = some (.ref b) from hb), hx, hN, h⟩
theorem lw_comes (l : Launch) (hflags : l.flags = flags0) : Comes l x (Jvm.Cond.code x code maxLocals ret :: tables_1) room_1 (fun tb e args s => Calls_1 tb e args s ∧ rest_1 tb e args s ∧ Pre_1 tb e args s)
    (fun _ _ args s o t => lw_Q args s o t) := by
  intro p e ha hc hk s m args below hf hfit hheap happ hpre
  obtain ⟨b, xs, hP⟩ := lw_pre_spec hpre.2.2 hpre.2.1
  obtain ⟨k, o, h1, h2, h3, hQ⟩ := lw_walk l hflags b xs p e ha hc hk s m args below hf ((Spec.applies_iff_loose hf).mp happ).1 hP trivial
  exact ⟨k, o, h1, h2, h3, hQ⟩
theorem lw_frame {s t : State} {o : Outcome} {args : Array Value} (h : Framed s o t [] 600000 7302250) :
    Framed s o t (fieldLocs frame_1_writes args s ++ arrayLocs frame_1_arrays args s ++ staticLocs frame_1_statics s) 600000 7302250 := h
theorem lw_limb (L : Cond) (hL : ∀ (args : Array Value) (s t : State), L.after args s (.returned (some (.int 1))) t = true) :
    ArmFor flags0 classFile x code maxLocals ret World_1 tables_1 room_1 Calls_1 rest_1 Pre_1
      (fun tb e a s o t => postC L tb e a s o t ∧ Framed s o t (fieldLocs frame_1_writes a s ++ arrayLocs frame_1_arrays a s ++ staticLocs frame_1_statics s) 600000 7302250) := by
  intro l hflags _ _ p e ha hc hk s m args below hf hfit hheap happ hpre
  obtain ⟨k, o, h1, h2, h3, rfl, hF⟩ := lw_comes l hflags p e ha hc hk s m args below hf hfit hheap happ hpre
  exact ⟨k, _, h1, h2, h3, hL args s _, lw_frame hF⟩
theorem i_vc : Claimed_1_1 ∧ Claimed_1_2 := ⟨lw_limb limb_1_1 (fun args s t => by simp [limb_1_1, Cond.after, Cond.holds, Cond.value]), lw_limb limb_1_2 (fun args s t => Cond.after_iff.mpr (by
  first | (rw [show limb_1_2 = Cond.eq .result (.int 1) from rfl, Cond.eq_ints (x := 1) (y := 1) rfl rfl]; simp; done) | (simp [limb_1_2, Cond.value, Term.eval]; done)))⟩
