/-! each instruction is sound -/
theorem ax_kn {X : ax_X} (hX : ax_ok X) {s : State} (hs : X.1.WarmedH s.vm) : va_K (X.2.1, X.2.2.1) vwCl [] s := ⟨fun c q hq => u_Kn_moved hs.alike (hX.1 c q hq), fun k q h => by simp at h⟩
theorem ax_cl {q : vw_C} {ci : Nat} (h : vwCl[ci]? = some q) : q ∈ vwCl := List.mem_of_getElem? h
section SND
variable {Y : ax_M} {pc : Nat}
theorem sn_iload_n {k : Fin 4} {i : Nat} (hi : (k : Nat) = i) (hd : decode Y.2.1 pc = .ok (.iload_n k, 1)) : ax_snd Y pc 1 (ai_iload i) := by
  intro R n κ ls st H hn ⟨x, h1, h⟩ X hX p l e s m args below meth c F Hm locs lsM hl hr hq g1 g2
  exact lv_iload_n F.1 F.2.1 hd hi (ax_ll_get hl h1) (hn _ _ _ _ h X hX p l e s m args below meth c F Hm locs lsM hl hr hq g1 g2)
theorem sn_iload {i : Nat} (hd : decode Y.2.1 pc = .ok (.iload i, 2)) : ax_snd Y pc 2 (ai_iload i) := by
  intro R n κ ls st H hn ⟨x, h1, h⟩ X hX p l e s m args below meth c F Hm locs lsM hl hr hq g1 g2
  exact lv_iload F.1 F.2.1 hd (ax_ll_get hl h1) (hn _ _ _ _ h X hX p l e s m args below meth c F Hm locs lsM hl hr hq g1 g2)
theorem sn_lload_n {k : Fin 4} {i : Nat} (hi : (k : Nat) = i) (hd : decode Y.2.1 pc = .ok (.lload_n k, 1)) : ax_snd Y pc 1 (ai_lload i) := by
  intro R n κ ls st H hn ⟨x, h1, h⟩ X hX p l e s m args below meth c F Hm locs lsM hl hr hq g1 g2
  exact lv_lload_n F.1 F.2.1 hd hi (ax_ll_get hl h1) (hn _ _ _ _ h X hX p l e s m args below meth c F Hm locs lsM hl hr hq g1 g2)
theorem sn_lload {i : Nat} (hd : decode Y.2.1 pc = .ok (.lload i, 2)) : ax_snd Y pc 2 (ai_lload i) := by
  intro R n κ ls st H hn ⟨x, h1, h⟩ X hX p l e s m args below meth c F Hm locs lsM hl hr hq g1 g2
  exact lv_lload F.1 F.2.1 hd (ax_ll_get hl h1) (hn _ _ _ _ h X hX p l e s m args below meth c F Hm locs lsM hl hr hq g1 g2)
theorem sn_aload_n {k : Fin 4} {i : Nat} (hi : (k : Nat) = i) (hd : decode Y.2.1 pc = .ok (.aload_n k, 1)) : ax_snd Y pc 1 (ai_aload i) := by
  intro R n κ ls st H hn ⟨x, h1, h⟩ X hX p l e s m args below meth c F Hm locs lsM hl hr hq g1 g2
  exact lv_aload_n F.1 F.2.1 hd hi (ax_ll_get hl h1) (hn _ _ _ _ h X hX p l e s m args below meth c F Hm locs lsM hl hr hq g1 g2)
theorem sn_aload {i : Nat} (hd : decode Y.2.1 pc = .ok (.aload i, 2)) : ax_snd Y pc 2 (ai_aload i) := by
  intro R n κ ls st H hn ⟨x, h1, h⟩ X hX p l e s m args below meth c F Hm locs lsM hl hr hq g1 g2
  exact lv_aload F.1 F.2.1 hd (ax_ll_get hl h1) (hn _ _ _ _ h X hX p l e s m args below meth c F Hm locs lsM hl hr hq g1 g2)
theorem sn_iconst {n0 : Int} {v : Int32} (hv : Int32.ofInt n0 = v) (hd : decode Y.2.1 pc = .ok (.iconst n0, 1)) : ax_snd Y pc 1 (ai_const (.int v)) := by
  intro R n κ ls st H hn h X hX p l e s m args below meth c F Hm locs lsM hl hr hq g1 g2
  exact lv_iconst F.1 F.2.1 hd hv (hn _ _ _ _ h X hX p l e s m args below meth c F Hm locs lsM hl hr hq g1 g2)
theorem sn_bipush {n0 : Int} {v : Int32} (hv : (Int8.ofInt n0).toInt32 = v) (hd : decode Y.2.1 pc = .ok (.bipush n0, 2)) : ax_snd Y pc 2 (ai_const (.int v)) := by
  intro R n κ ls st H hn h X hX p l e s m args below meth c F Hm locs lsM hl hr hq g1 g2
  exact lv_bipush F.1 F.2.1 hd hv (hn _ _ _ _ h X hX p l e s m args below meth c F Hm locs lsM hl hr hq g1 g2)
theorem sn_sipush {n0 : Int} {v : Int32} (hv : (Int16.ofInt n0).toInt32 = v) (hd : decode Y.2.1 pc = .ok (.sipush n0, 3)) : ax_snd Y pc 3 (ai_const (.int v)) := by
  intro R n κ ls st H hn h X hX p l e s m args below meth c F Hm locs lsM hl hr hq g1 g2
  exact lv_sipush F.1 F.2.1 hd hv (hn _ _ _ _ h X hX p l e s m args below meth c F Hm locs lsM hl hr hq g1 g2)
theorem sn_lconst {n0 : Fin 2} {v : Int64} (hv : Int64.ofNat (n0 : Nat) = v) (hd : decode Y.2.1 pc = .ok (.lconst n0, 1)) : ax_snd Y pc 1 (ai_const (.long v)) := by
  intro R n κ ls st H hn h X hX p l e s m args below meth c F Hm locs lsM hl hr hq g1 g2
  exact lv_lconst F.1 F.2.1 hd hv (hn _ _ _ _ h X hX p l e s m args below meth c F Hm locs lsM hl hr hq g1 g2)
theorem sn_ldc {idx : Nat} {v : Int32} (hw : Cond.constant Y.1.cls idx v ∈ ax_tb) (hd : decode Y.2.1 pc = .ok (.ldc idx, 2)) : ax_snd Y pc 2 (ai_const (.int v)) := by
  intro R n κ ls st H hn h X hX p l e s m args below meth c F Hm locs lsM hl hr hq g1 g2
  exact lv_ldc F.1 F.2.1 F.2.2.2.1 (F.2.2.2.2.1 _ hw) hd (hn _ _ _ _ h X hX p l e s m args below meth c F Hm locs lsM hl hr hq g1 g2)
theorem sn_ldcw {idx : Nat} {v : Int32} (hw : Cond.constant Y.1.cls idx v ∈ ax_tb) (hd : decode Y.2.1 pc = .ok (.ldc_w idx, 3)) : ax_snd Y pc 3 (ai_const (.int v)) := by
  intro R n κ ls st H hn h X hX p l e s m args below meth c F Hm locs lsM hl hr hq g1 g2
  exact lv_ldcw F.1 F.2.1 F.2.2.2.1 (F.2.2.2.2.1 _ hw) hd (hn _ _ _ _ h X hX p l e s m args below meth c F Hm locs lsM hl hr hq g1 g2)
theorem sn_ldc2 {idx : Nat} {v : Int64} (hw : Cond.constantLong Y.1.cls idx v ∈ ax_tb) (hd : decode Y.2.1 pc = .ok (.ldc2_w idx, 3)) : ax_snd Y pc 3 (ai_const (.long v)) := by
  intro R n κ ls st H hn h X hX p l e s m args below meth c F Hm locs lsM hl hr hq g1 g2
  exact lv_ldc2 F.1 F.2.1 F.2.2.2.1 (F.2.2.2.2.1 _ hw) hd (hn _ _ _ _ h X hX p l e s m args below meth c F Hm locs lsM hl hr hq g1 g2)
theorem sn_istore_n {k : Fin 4} {i : Nat} (hi : (k : Nat) = i) (hL : i < Y.2.2.1) (hd : decode Y.2.1 pc = .ok (.istore_n k, 1)) : ax_snd Y pc 1 (ai_istore i) := by
  intro R n κ ls st H hn ⟨x, r, h1, h⟩ X hX p l e s m args below meth c F Hm locs lsM hl hr hq g1 g2
  subst h1
  exact lv_istore_n F.1 F.2.1 hd hi hl hL rfl (fun ls' hl' => hn _ _ _ _ h X hX p l e s m args below meth c F Hm locs ls' (ax_s1_has (v := .int x) hl') hr hq g1 g2)
theorem sn_istore {i : Nat} (hL : i < Y.2.2.1) (hd : decode Y.2.1 pc = .ok (.istore i, 2)) : ax_snd Y pc 2 (ai_istore i) := by
  intro R n κ ls st H hn ⟨x, r, h1, h⟩ X hX p l e s m args below meth c F Hm locs lsM hl hr hq g1 g2
  subst h1
  exact lv_istore F.1 F.2.1 hd hl hL rfl (fun ls' hl' => hn _ _ _ _ h X hX p l e s m args below meth c F Hm locs ls' (ax_s1_has (v := .int x) hl') hr hq g1 g2)
theorem sn_astore_n {k : Fin 4} {i : Nat} (hi : (k : Nat) = i) (hL : i < Y.2.2.1) (hd : decode Y.2.1 pc = .ok (.astore_n k, 1)) : ax_snd Y pc 1 (ai_astore i) := by
  intro R n κ ls st H hn ⟨x, r, h1, h⟩ X hX p l e s m args below meth c F Hm locs lsM hl hr hq g1 g2
  subst h1
  exact lv_astore_n F.1 F.2.1 hd hi hl hL rfl (fun ls' hl' => hn _ _ _ _ h X hX p l e s m args below meth c F Hm locs ls' (ax_s1_has (v := .ref x) hl') hr hq g1 g2)
theorem sn_astore {i : Nat} (hL : i < Y.2.2.1) (hd : decode Y.2.1 pc = .ok (.astore i, 2)) : ax_snd Y pc 2 (ai_astore i) := by
  intro R n κ ls st H hn ⟨x, r, h1, h⟩ X hX p l e s m args below meth c F Hm locs lsM hl hr hq g1 g2
  subst h1
  exact lv_astore F.1 F.2.1 hd hl hL rfl (fun ls' hl' => hn _ _ _ _ h X hX p l e s m args below meth c F Hm locs ls' (ax_s1_has (v := .ref x) hl') hr hq g1 g2)
theorem sn_lstore_n {k : Fin 4} {i : Nat} (hi : (k : Nat) = i) (hL : i + 1 < Y.2.2.1) (hd : decode Y.2.1 pc = .ok (.lstore_n k, 1)) : ax_snd Y pc 1 (ai_lstore i) := by
  intro R n κ ls st H hn ⟨x, r, h1, h⟩ X hX p l e s m args below meth c F Hm locs lsM hl hr hq g1 g2
  subst h1
  exact lv_lstore_n F.1 F.2.1 hd hi hl hL rfl (fun ls' hl' => hn _ _ _ _ h X hX p l e s m args below meth c F Hm locs ls' (ax_s2_has (v := .long x) hl') hr hq g1 g2)
theorem sn_lstore {i : Nat} (hL : i + 1 < Y.2.2.1) (hd : decode Y.2.1 pc = .ok (.lstore i, 2)) : ax_snd Y pc 2 (ai_lstore i) := by
  intro R n κ ls st H hn ⟨x, r, h1, h⟩ X hX p l e s m args below meth c F Hm locs lsM hl hr hq g1 g2
  subst h1
  exact lv_lstore F.1 F.2.1 hd hl hL rfl (fun ls' hl' => hn _ _ _ _ h X hX p l e s m args below meth c F Hm locs ls' (ax_s2_has (v := .long x) hl') hr hq g1 g2)
theorem sn_iinc {i : Nat} {d0 : Int} {d : Int32} (hv : Int32.ofInt d0 = d) (hL : i < Y.2.2.1) (hd : decode Y.2.1 pc = .ok (.iinc i d0, 3)) : ax_snd Y pc 3 (ai_iinc i d) := by
  intro R n κ ls st H hn ⟨x, h1, h⟩ X hX p l e s m args below meth c F Hm locs lsM hl hr hq g1 g2
  subst hv
  have hmem : (i, Value.int x) ∈ ax_ll X 0 ls := (ax_ll_mem X ls 0 i _).mpr ⟨i, .int x, by omega, h1, rfl⟩
  obtain ⟨k, hk⟩ := List.getElem?_of_mem hmem
  exact lv_iinc F.1 F.2.1 hd hl hk rfl hL rfl (fun ls' hl' => hn _ _ _ _ h X hX p l e s m args below meth c F Hm locs ls' (ax_s1_has (v := .int (x + Int32.ofInt d0)) hl') hr hq g1 g2)
theorem sn_iadd (hd : decode Y.2.1 pc = .ok (.iadd, 1)) : ax_snd Y pc 1 (ai_b (fun x y => x + y)) := by
  intro R n κ ls st H hn ⟨x, y, r, h1, h⟩ X hX p l e s m args below meth c F Hm locs lsM hl hr hq g1 g2
  subst h1
  exact lv_iadd F.1 F.2.1 hd (hn _ _ _ _ h X hX p l e s m args below meth c F Hm locs lsM hl hr hq g1 g2)
theorem sn_isub (hd : decode Y.2.1 pc = .ok (.isub, 1)) : ax_snd Y pc 1 (ai_b (fun x y => x - y)) := by
  intro R n κ ls st H hn ⟨x, y, r, h1, h⟩ X hX p l e s m args below meth c F Hm locs lsM hl hr hq g1 g2
  subst h1
  exact lv_isub F.1 F.2.1 hd (hn _ _ _ _ h X hX p l e s m args below meth c F Hm locs lsM hl hr hq g1 g2)
theorem sn_imul (hd : decode Y.2.1 pc = .ok (.imul, 1)) : ax_snd Y pc 1 (ai_b (fun x y => x * y)) := by
  intro R n κ ls st H hn ⟨x, y, r, h1, h⟩ X hX p l e s m args below meth c F Hm locs lsM hl hr hq g1 g2
  subst h1
  exact lv_imul F.1 F.2.1 hd (hn _ _ _ _ h X hX p l e s m args below meth c F Hm locs lsM hl hr hq g1 g2)
theorem sn_iand (hd : decode Y.2.1 pc = .ok (.iand, 1)) : ax_snd Y pc 1 (ai_b (fun x y => x &&& y)) := by
  intro R n κ ls st H hn ⟨x, y, r, h1, h⟩ X hX p l e s m args below meth c F Hm locs lsM hl hr hq g1 g2
  subst h1
  exact lv_iand F.1 F.2.1 hd (hn _ _ _ _ h X hX p l e s m args below meth c F Hm locs lsM hl hr hq g1 g2)
theorem sn_ior (hd : decode Y.2.1 pc = .ok (.ior, 1)) : ax_snd Y pc 1 (ai_b (fun x y => x ||| y)) := by
  intro R n κ ls st H hn ⟨x, y, r, h1, h⟩ X hX p l e s m args below meth c F Hm locs lsM hl hr hq g1 g2
  subst h1
  exact lv_ior F.1 F.2.1 hd (hn _ _ _ _ h X hX p l e s m args below meth c F Hm locs lsM hl hr hq g1 g2)
theorem sn_ixor (hd : decode Y.2.1 pc = .ok (.ixor, 1)) : ax_snd Y pc 1 (ai_b (fun x y => x ^^^ y)) := by
  intro R n κ ls st H hn ⟨x, y, r, h1, h⟩ X hX p l e s m args below meth c F Hm locs lsM hl hr hq g1 g2
  subst h1
  exact lv_ixor F.1 F.2.1 hd (hn _ _ _ _ h X hX p l e s m args below meth c F Hm locs lsM hl hr hq g1 g2)
theorem sn_ishl (hd : decode Y.2.1 pc = .ok (.ishl, 1)) : ax_snd Y pc 1 (ai_b (fun x y => x <<< (y &&& 31))) := by
  intro R n κ ls st H hn ⟨x, y, r, h1, h⟩ X hX p l e s m args below meth c F Hm locs lsM hl hr hq g1 g2
  subst h1
  exact lv_ishl F.1 F.2.1 hd (hn _ _ _ _ h X hX p l e s m args below meth c F Hm locs lsM hl hr hq g1 g2)
theorem sn_ishr (hd : decode Y.2.1 pc = .ok (.ishr, 1)) : ax_snd Y pc 1 (ai_b (fun x y => x >>> (y &&& 31))) := by
  intro R n κ ls st H hn ⟨x, y, r, h1, h⟩ X hX p l e s m args below meth c F Hm locs lsM hl hr hq g1 g2
  subst h1
  exact lv_ishr F.1 F.2.1 hd (hn _ _ _ _ h X hX p l e s m args below meth c F Hm locs lsM hl hr hq g1 g2)
theorem sn_iushr (hd : decode Y.2.1 pc = .ok (.iushr, 1)) : ax_snd Y pc 1 (ai_b (fun x y => (x.toUInt32 >>> (y.toUInt32 &&& Int32.toUInt32 31)).toInt32)) := by
  intro R n κ ls st H hn ⟨x, y, r, h1, h⟩ X hX p l e s m args below meth c F Hm locs lsM hl hr hq g1 g2
  subst h1
  exact lv_iushr F.1 F.2.1 hd rfl (hn _ _ _ _ h X hX p l e s m args below meth c F Hm locs lsM hl hr hq g1 g2)
theorem sn_idiv (hd : decode Y.2.1 pc = .ok (.idiv, 1)) : ax_snd Y pc 1 (ai_bd (fun x y => x / y)) := by
  intro R n κ ls st H hn ⟨x, y, r, h1, h0, h⟩ X hX p l e s m args below meth c F Hm locs lsM hl hr hq g1 g2
  subst h1
  exact lv_idiv F.1 F.2.1 hd h0 (hn _ _ _ _ h X hX p l e s m args below meth c F Hm locs lsM hl hr hq g1 g2)
theorem sn_irem (hd : decode Y.2.1 pc = .ok (.irem, 1)) : ax_snd Y pc 1 (ai_bd (fun x y => x - x / y * y)) := by
  intro R n κ ls st H hn ⟨x, y, r, h1, h0, h⟩ X hX p l e s m args below meth c F Hm locs lsM hl hr hq g1 g2
  subst h1
  exact lv_irem F.1 F.2.1 hd h0 (hn _ _ _ _ h X hX p l e s m args below meth c F Hm locs lsM hl hr hq g1 g2)
theorem sn_ladd (hd : decode Y.2.1 pc = .ok (.ladd, 1)) : ax_snd Y pc 1 (ai_lb (fun x y => x + y)) := by
  intro R n κ ls st H hn ⟨x, y, r, h1, h⟩ X hX p l e s m args below meth c F Hm locs lsM hl hr hq g1 g2
  subst h1
  exact lv_ladd F.1 F.2.1 hd (hn _ _ _ _ h X hX p l e s m args below meth c F Hm locs lsM hl hr hq g1 g2)
theorem sn_lsub (hd : decode Y.2.1 pc = .ok (.lsub, 1)) : ax_snd Y pc 1 (ai_lb (fun x y => x - y)) := by
  intro R n κ ls st H hn ⟨x, y, r, h1, h⟩ X hX p l e s m args below meth c F Hm locs lsM hl hr hq g1 g2
  subst h1
  exact lv_lsub F.1 F.2.1 hd (hn _ _ _ _ h X hX p l e s m args below meth c F Hm locs lsM hl hr hq g1 g2)
theorem sn_lmul (hd : decode Y.2.1 pc = .ok (.lmul, 1)) : ax_snd Y pc 1 (ai_lb (fun x y => x * y)) := by
  intro R n κ ls st H hn ⟨x, y, r, h1, h⟩ X hX p l e s m args below meth c F Hm locs lsM hl hr hq g1 g2
  subst h1
  exact lv_lmul F.1 F.2.1 hd (hn _ _ _ _ h X hX p l e s m args below meth c F Hm locs lsM hl hr hq g1 g2)
theorem sn_ldiv (hd : decode Y.2.1 pc = .ok (.ldiv, 1)) : ax_snd Y pc 1 (ai_lbd (fun x y => x / y)) := by
  intro R n κ ls st H hn ⟨x, y, r, h1, h0, h⟩ X hX p l e s m args below meth c F Hm locs lsM hl hr hq g1 g2
  subst h1
  exact lv_ldiv F.1 F.2.1 hd h0 (hn _ _ _ _ h X hX p l e s m args below meth c F Hm locs lsM hl hr hq g1 g2)
theorem sn_lrem (hd : decode Y.2.1 pc = .ok (.lrem, 1)) : ax_snd Y pc 1 (ai_lbd (fun x y => x - x / y * y)) := by
  intro R n κ ls st H hn ⟨x, y, r, h1, h0, h⟩ X hX p l e s m args below meth c F Hm locs lsM hl hr hq g1 g2
  subst h1
  exact lv_lrem F.1 F.2.1 hd h0 (hn _ _ _ _ h X hX p l e s m args below meth c F Hm locs lsM hl hr hq g1 g2)
theorem sn_lcmp (hd : decode Y.2.1 pc = .ok (.lcmp, 1)) : ax_snd Y pc 1 ai_lcmp := by
  intro R n κ ls st H hn ⟨x, y, r, h1, h⟩ X hX p l e s m args below meth c F Hm locs lsM hl hr hq g1 g2
  subst h1
  exact W.lcmp F.1 F.2.1 hd (hn _ _ _ _ h X hX p l e s m args below meth c F Hm locs lsM hl hr hq g1 g2)
theorem sn_i2l (hd : decode Y.2.1 pc = .ok (.i2l, 1)) : ax_snd Y pc 1 ai_i2l := by
  intro R n κ ls st H hn ⟨x, r, h1, h⟩ X hX p l e s m args below meth c F Hm locs lsM hl hr hq g1 g2
  subst h1
  exact lv_i2l F.1 F.2.1 hd rfl (hn _ _ _ _ h X hX p l e s m args below meth c F Hm locs lsM hl hr hq g1 g2)
theorem sn_l2i (hd : decode Y.2.1 pc = .ok (.l2i, 1)) : ax_snd Y pc 1 ai_l2i := by
  intro R n κ ls st H hn ⟨x, r, h1, h⟩ X hX p l e s m args below meth c F Hm locs lsM hl hr hq g1 g2
  subst h1
  exact lv_l2i F.1 F.2.1 hd rfl (hn _ _ _ _ h X hX p l e s m args below meth c F Hm locs lsM hl hr hq g1 g2)
theorem sn_i2b (hd : decode Y.2.1 pc = .ok (.i2b, 1)) : ax_snd Y pc 1 ai_i2b := by
  intro R n κ ls st H hn ⟨x, r, h1, h⟩ X hX p l e s m args below meth c F Hm locs lsM hl hr hq g1 g2
  subst h1
  exact lv_i2b F.1 F.2.1 hd rfl (hn _ _ _ _ h X hX p l e s m args below meth c F Hm locs lsM hl hr hq g1 g2)
theorem sn_dup (hd : decode Y.2.1 pc = .ok (.dup, 1)) : ax_snd Y pc 1 ai_dup := by
  intro R n κ ls st H hn ⟨v, r, h1, h0, h⟩ X hX p l e s m args below meth c F Hm locs lsM hl hr hq g1 g2
  subst h1
  exact lv_dup F.1 F.2.1 hd (by rw [ax_cat]; exact h0) (hn _ _ _ _ h X hX p l e s m args below meth c F Hm locs lsM hl hr hq g1 g2)
theorem sn_dup2 (hd : decode Y.2.1 pc = .ok (.dup2, 1)) : ax_snd Y pc 1 ai_dup2 := by
  intro R n κ ls st H hn ⟨v, w, r, h1, h0, h2, h⟩ X hX p l e s m args below meth c F Hm locs lsM hl hr hq g1 g2
  subst h1
  exact lv_dup2_11 F.1 F.2.1 hd (by rw [ax_cat]; exact h0) (by rw [ax_cat]; exact h2) (hn _ _ _ _ h X hX p l e s m args below meth c F Hm locs lsM hl hr hq g1 g2)
theorem sn_goto {off : Int} {t : Nat} (ht : (pc : Int) + off = (t : Int)) (hd : decode Y.2.1 pc = .ok (.goto off, 3)) : ax_snd Y pc 3 (ai_goto t) := by
  intro R n κ ls st H hn h X hX p l e s m args below meth c F Hm locs lsM hl hr hq g1 g2
  exact lv_goto F.1 F.2.1 hd ht (h X hX p l e s m args below meth c F Hm locs lsM hl hr hq g1 g2)
/-- no instruction: the row goes on at a row that has a name of its own -/
theorem sn_fall : ax_snd Y pc 0 (ai_goto pc) := fun R n κ ls st H hn h => h
theorem sn_if_eq {off : Int} {t : Nat} (ht : (pc : Int) + off = (t : Int)) (hd : decode Y.2.1 pc = .ok (.ifCond .eq off, 3)) : ax_snd Y pc 3 (ai_if1 (fun x => x = 0) t) := by
  intro R n κ ls st H hn ⟨x, r, h1, ha, hb⟩ X hX p l e s m args below meth c F Hm locs lsM hl hr hq g1 g2
  subst h1
  exact lv_if_eq F.1 F.2.1 hd ht (fun q => ha q X hX p l e s m args below meth c F Hm locs lsM hl hr hq g1 g2) (fun q => hn _ _ _ _ (hb q) X hX p l e s m args below meth c F Hm locs lsM hl hr hq g1 g2)
theorem sn_if_ne {off : Int} {t : Nat} (ht : (pc : Int) + off = (t : Int)) (hd : decode Y.2.1 pc = .ok (.ifCond .ne off, 3)) : ax_snd Y pc 3 (ai_if1 (fun x => ¬ x = 0) t) := by
  intro R n κ ls st H hn ⟨x, r, h1, ha, hb⟩ X hX p l e s m args below meth c F Hm locs lsM hl hr hq g1 g2
  subst h1
  exact lv_if_ne F.1 F.2.1 hd ht (fun q => ha q X hX p l e s m args below meth c F Hm locs lsM hl hr hq g1 g2) (fun q => hn _ _ _ _ (hb (fun z => z q)) X hX p l e s m args below meth c F Hm locs lsM hl hr hq g1 g2)
theorem sn_if_lt {off : Int} {t : Nat} (ht : (pc : Int) + off = (t : Int)) (hd : decode Y.2.1 pc = .ok (.ifCond .lt off, 3)) : ax_snd Y pc 3 (ai_if1 (fun x => x < 0) t) := by
  intro R n κ ls st H hn ⟨x, r, h1, ha, hb⟩ X hX p l e s m args below meth c F Hm locs lsM hl hr hq g1 g2
  subst h1
  exact lv_if_lt F.1 F.2.1 hd ht (fun q => ha q X hX p l e s m args below meth c F Hm locs lsM hl hr hq g1 g2) (fun q => hn _ _ _ _ (hb q) X hX p l e s m args below meth c F Hm locs lsM hl hr hq g1 g2)
theorem sn_if_ge {off : Int} {t : Nat} (ht : (pc : Int) + off = (t : Int)) (hd : decode Y.2.1 pc = .ok (.ifCond .ge off, 3)) : ax_snd Y pc 3 (ai_if1 (fun x => 0 ≤ x) t) := by
  intro R n κ ls st H hn ⟨x, r, h1, ha, hb⟩ X hX p l e s m args below meth c F Hm locs lsM hl hr hq g1 g2
  subst h1
  exact lv_if_ge F.1 F.2.1 hd ht (fun q => ha q X hX p l e s m args below meth c F Hm locs lsM hl hr hq g1 g2) (fun q => hn _ _ _ _ (hb q) X hX p l e s m args below meth c F Hm locs lsM hl hr hq g1 g2)
theorem sn_if_gt {off : Int} {t : Nat} (ht : (pc : Int) + off = (t : Int)) (hd : decode Y.2.1 pc = .ok (.ifCond .gt off, 3)) : ax_snd Y pc 3 (ai_if1 (fun x => 0 < x) t) := by
  intro R n κ ls st H hn ⟨x, r, h1, ha, hb⟩ X hX p l e s m args below meth c F Hm locs lsM hl hr hq g1 g2
  subst h1
  exact lv_if_gt F.1 F.2.1 hd ht (fun q => ha q X hX p l e s m args below meth c F Hm locs lsM hl hr hq g1 g2) (fun q => hn _ _ _ _ (hb q) X hX p l e s m args below meth c F Hm locs lsM hl hr hq g1 g2)
theorem sn_if_le {off : Int} {t : Nat} (ht : (pc : Int) + off = (t : Int)) (hd : decode Y.2.1 pc = .ok (.ifCond .le off, 3)) : ax_snd Y pc 3 (ai_if1 (fun x => x ≤ 0) t) := by
  intro R n κ ls st H hn ⟨x, r, h1, ha, hb⟩ X hX p l e s m args below meth c F Hm locs lsM hl hr hq g1 g2
  subst h1
  exact lv_if_le F.1 F.2.1 hd ht (fun q => ha q X hX p l e s m args below meth c F Hm locs lsM hl hr hq g1 g2) (fun q => hn _ _ _ _ (hb q) X hX p l e s m args below meth c F Hm locs lsM hl hr hq g1 g2)
theorem sn_icmp_eq {off : Int} {t : Nat} (ht : (pc : Int) + off = (t : Int)) (hd : decode Y.2.1 pc = .ok (.if_icmp .eq off, 3)) : ax_snd Y pc 3 (ai_if2 (fun x y => x = y) t) := by
  intro R n κ ls st H hn ⟨x, y, r, h1, ha, hb⟩ X hX p l e s m args below meth c F Hm locs lsM hl hr hq g1 g2
  subst h1
  exact lv_icmp_eq F.1 F.2.1 hd ht (fun q => ha q X hX p l e s m args below meth c F Hm locs lsM hl hr hq g1 g2) (fun q => hn _ _ _ _ (hb q) X hX p l e s m args below meth c F Hm locs lsM hl hr hq g1 g2)
theorem sn_icmp_ne {off : Int} {t : Nat} (ht : (pc : Int) + off = (t : Int)) (hd : decode Y.2.1 pc = .ok (.if_icmp .ne off, 3)) : ax_snd Y pc 3 (ai_if2 (fun x y => ¬ x = y) t) := by
  intro R n κ ls st H hn ⟨x, y, r, h1, ha, hb⟩ X hX p l e s m args below meth c F Hm locs lsM hl hr hq g1 g2
  subst h1
  exact lv_icmp_ne F.1 F.2.1 hd ht (fun q => ha q X hX p l e s m args below meth c F Hm locs lsM hl hr hq g1 g2) (fun q => hn _ _ _ _ (hb (fun z => z q)) X hX p l e s m args below meth c F Hm locs lsM hl hr hq g1 g2)
theorem sn_icmp_lt {off : Int} {t : Nat} (ht : (pc : Int) + off = (t : Int)) (hd : decode Y.2.1 pc = .ok (.if_icmp .lt off, 3)) : ax_snd Y pc 3 (ai_if2 (fun x y => x < y) t) := by
  intro R n κ ls st H hn ⟨x, y, r, h1, ha, hb⟩ X hX p l e s m args below meth c F Hm locs lsM hl hr hq g1 g2
  subst h1
  exact lv_icmp_lt F.1 F.2.1 hd ht (fun q => ha q X hX p l e s m args below meth c F Hm locs lsM hl hr hq g1 g2) (fun q => hn _ _ _ _ (hb q) X hX p l e s m args below meth c F Hm locs lsM hl hr hq g1 g2)
theorem sn_icmp_ge {off : Int} {t : Nat} (ht : (pc : Int) + off = (t : Int)) (hd : decode Y.2.1 pc = .ok (.if_icmp .ge off, 3)) : ax_snd Y pc 3 (ai_if2 (fun x y => y ≤ x) t) := by
  intro R n κ ls st H hn ⟨x, y, r, h1, ha, hb⟩ X hX p l e s m args below meth c F Hm locs lsM hl hr hq g1 g2
  subst h1
  exact lv_icmp_ge F.1 F.2.1 hd ht (fun q => ha q X hX p l e s m args below meth c F Hm locs lsM hl hr hq g1 g2) (fun q => hn _ _ _ _ (hb q) X hX p l e s m args below meth c F Hm locs lsM hl hr hq g1 g2)
theorem sn_icmp_gt {off : Int} {t : Nat} (ht : (pc : Int) + off = (t : Int)) (hd : decode Y.2.1 pc = .ok (.if_icmp .gt off, 3)) : ax_snd Y pc 3 (ai_if2 (fun x y => y < x) t) := by
  intro R n κ ls st H hn ⟨x, y, r, h1, ha, hb⟩ X hX p l e s m args below meth c F Hm locs lsM hl hr hq g1 g2
  subst h1
  exact lv_icmp_gt F.1 F.2.1 hd ht (fun q => ha q X hX p l e s m args below meth c F Hm locs lsM hl hr hq g1 g2) (fun q => hn _ _ _ _ (hb q) X hX p l e s m args below meth c F Hm locs lsM hl hr hq g1 g2)
theorem sn_icmp_le {off : Int} {t : Nat} (ht : (pc : Int) + off = (t : Int)) (hd : decode Y.2.1 pc = .ok (.if_icmp .le off, 3)) : ax_snd Y pc 3 (ai_if2 (fun x y => x ≤ y) t) := by
  intro R n κ ls st H hn ⟨x, y, r, h1, ha, hb⟩ X hX p l e s m args below meth c F Hm locs lsM hl hr hq g1 g2
  subst h1
  exact lv_icmp_le F.1 F.2.1 hd ht (fun q => ha q X hX p l e s m args below meth c F Hm locs lsM hl hr hq g1 g2) (fun q => hn _ _ _ _ (hb q) X hX p l e s m args below meth c F Hm locs lsM hl hr hq g1 g2)
end SND
