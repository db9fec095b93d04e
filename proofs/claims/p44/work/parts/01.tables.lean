-- ===== PART A: goes FIRST, ahead of the names: the tables' words, and 'selects' of the private methods out of them =====
/-- a private method of a class that the tables say can be made, by its rows of tables_1 -/
def lw_okq (q : MethodName × Nat) : Prop := (q.1.cls ≠ "java/lang/invoke/MethodHandle" ∧ q.1.cls ≠ "java/lang/invoke/VarHandle") ∧ Cond.instantiable q.1.cls q.2 ∈ tables_1 ∧ Cond.privateMethod q.1 ∈ tables_1 ∧ Cond.instanceMethod q.1 ∈ tables_1
theorem lw_p0 : lw_okq (⟨"ChairCabinet", "renewed", "(LChairCabinet$Shelf;III)I"⟩, 14) := ⟨⟨by decide +kernel, by decide +kernel⟩, List.mem_of_getElem? (i := 12) (by decide +kernel), List.mem_of_getElem? (i := 195) (by decide +kernel), List.mem_of_getElem? (i := 196) (by decide +kernel)⟩
theorem lw_p1 : lw_okq (⟨"ChairCabinet", "found", "(I)I"⟩, 14) := ⟨⟨by decide +kernel, by decide +kernel⟩, List.mem_of_getElem? (i := 12) (by decide +kernel), List.mem_of_getElem? (i := 203) (by decide +kernel), List.mem_of_getElem? (i := 204) (by decide +kernel)⟩
theorem lw_p2 : lw_okq (⟨"ChairCabinet", "placeRefusal", "(LChairCabinet$Shelf;II)I"⟩, 14) := ⟨⟨by decide +kernel, by decide +kernel⟩, List.mem_of_getElem? (i := 12) (by decide +kernel), List.mem_of_getElem? (i := 221) (by decide +kernel), List.mem_of_getElem? (i := 222) (by decide +kernel)⟩
theorem lw_p3 : lw_okq (⟨"ChairCabinet", "listRefusal", "(LChairCabinet$Shelf;I)I"⟩, 14) := ⟨⟨by decide +kernel, by decide +kernel⟩, List.mem_of_getElem? (i := 12) (by decide +kernel), List.mem_of_getElem? (i := 225) (by decide +kernel), List.mem_of_getElem? (i := 226) (by decide +kernel)⟩
theorem lw_p4 : lw_okq (⟨"ChairCabinet", "tell", "(I)I"⟩, 14) := ⟨⟨by decide +kernel, by decide +kernel⟩, List.mem_of_getElem? (i := 12) (by decide +kernel), List.mem_of_getElem? (i := 241) (by decide +kernel), List.mem_of_getElem? (i := 242) (by decide +kernel)⟩
theorem lw_p5 : lw_okq (⟨"ChairCabinet", "deedRefusal", "(I)I"⟩, 14) := ⟨⟨by decide +kernel, by decide +kernel⟩, List.mem_of_getElem? (i := 12) (by decide +kernel), List.mem_of_getElem? (i := 253) (by decide +kernel), List.mem_of_getElem? (i := 254) (by decide +kernel)⟩
theorem lw_p6 : lw_okq (⟨"ChairCabinet", "act", "(I)V"⟩, 14) := ⟨⟨by decide +kernel, by decide +kernel⟩, List.mem_of_getElem? (i := 12) (by decide +kernel), List.mem_of_getElem? (i := 261) (by decide +kernel), List.mem_of_getElem? (i := 262) (by decide +kernel)⟩
theorem lw_p7 : lw_okq (⟨"ChairCabinet$Ring", "seat", "(LChairCabinet$Ministers;I)V"⟩, 6) := ⟨⟨by decide +kernel, by decide +kernel⟩, List.mem_of_getElem? (i := 82) (by decide +kernel), List.mem_of_getElem? (i := 298) (by decide +kernel), List.mem_of_getElem? (i := 299) (by decide +kernel)⟩
theorem lw_p8 : lw_okq (⟨"ChairCabinet", "isMinister", "(I)Z"⟩, 14) := ⟨⟨by decide +kernel, by decide +kernel⟩, List.mem_of_getElem? (i := 12) (by decide +kernel), List.mem_of_getElem? (i := 335) (by decide +kernel), List.mem_of_getElem? (i := 336) (by decide +kernel)⟩
theorem lw_p9 : lw_okq (⟨"ChairCabinet", "replay", "()V"⟩, 14) := ⟨⟨by decide +kernel, by decide +kernel⟩, List.mem_of_getElem? (i := 12) (by decide +kernel), List.mem_of_getElem? (i := 344) (by decide +kernel), List.mem_of_getElem? (i := 345) (by decide +kernel)⟩
theorem lw_p10 : lw_okq (⟨"ChairCabinet", "isKeeping", "(I)Z"⟩, 14) := ⟨⟨by decide +kernel, by decide +kernel⟩, List.mem_of_getElem? (i := 12) (by decide +kernel), List.mem_of_getElem? (i := 359) (by decide +kernel), List.mem_of_getElem? (i := 360) (by decide +kernel)⟩
theorem lw_p11 : lw_okq (⟨"ChairCabinet", "asideRefusal", "(III)I"⟩, 14) := ⟨⟨by decide +kernel, by decide +kernel⟩, List.mem_of_getElem? (i := 12) (by decide +kernel), List.mem_of_getElem? (i := 376) (by decide +kernel), List.mem_of_getElem? (i := 377) (by decide +kernel)⟩
theorem lw_p12 : lw_okq (⟨"ChairCabinet", "placeAfter", "(II)I"⟩, 14) := ⟨⟨by decide +kernel, by decide +kernel⟩, List.mem_of_getElem? (i := 12) (by decide +kernel), List.mem_of_getElem? (i := 380) (by decide +kernel), List.mem_of_getElem? (i := 381) (by decide +kernel)⟩
theorem lw_p13 : lw_okq (⟨"ChairCabinet", "stopAside", "(II)V"⟩, 14) := ⟨⟨by decide +kernel, by decide +kernel⟩, List.mem_of_getElem? (i := 12) (by decide +kernel), List.mem_of_getElem? (i := 389) (by decide +kernel), List.mem_of_getElem? (i := 390) (by decide +kernel)⟩
theorem lw_p14 : lw_okq (⟨"ChairCabinet", "barsToBeIn", "(II)I"⟩, 14) := ⟨⟨by decide +kernel, by decide +kernel⟩, List.mem_of_getElem? (i := 12) (by decide +kernel), List.mem_of_getElem? (i := 399) (by decide +kernel), List.mem_of_getElem? (i := 400) (by decide +kernel)⟩
theorem lw_p15 : lw_okq (⟨"ChairCabinet", "wouldBeIn", "(III)Z"⟩, 14) := ⟨⟨by decide +kernel, by decide +kernel⟩, List.mem_of_getElem? (i := 12) (by decide +kernel), List.mem_of_getElem? (i := 411) (by decide +kernel), List.mem_of_getElem? (i := 412) (by decide +kernel)⟩
def lw_privs_1 : List (MethodName × Nat) := [(⟨"ChairCabinet", "renewed", "(LChairCabinet$Shelf;III)I"⟩, 14), (⟨"ChairCabinet", "found", "(I)I"⟩, 14), (⟨"ChairCabinet", "placeRefusal", "(LChairCabinet$Shelf;II)I"⟩, 14), (⟨"ChairCabinet", "listRefusal", "(LChairCabinet$Shelf;I)I"⟩, 14), (⟨"ChairCabinet", "tell", "(I)I"⟩, 14), (⟨"ChairCabinet", "deedRefusal", "(I)I"⟩, 14), (⟨"ChairCabinet", "act", "(I)V"⟩, 14), (⟨"ChairCabinet$Ring", "seat", "(LChairCabinet$Ministers;I)V"⟩, 6), (⟨"ChairCabinet", "isMinister", "(I)Z"⟩, 14), (⟨"ChairCabinet", "replay", "()V"⟩, 14), (⟨"ChairCabinet", "isKeeping", "(I)Z"⟩, 14), (⟨"ChairCabinet", "asideRefusal", "(III)I"⟩, 14), (⟨"ChairCabinet", "placeAfter", "(II)I"⟩, 14), (⟨"ChairCabinet", "stopAside", "(II)V"⟩, 14), (⟨"ChairCabinet", "barsToBeIn", "(II)I"⟩, 14), (⟨"ChairCabinet", "wouldBeIn", "(III)Z"⟩, 14)]
theorem lw_r1 : ∀ q ∈ lw_privs_1, lw_okq q := List.forall_mem_cons.mpr ⟨lw_p0, List.forall_mem_cons.mpr ⟨lw_p1, List.forall_mem_cons.mpr ⟨lw_p2, List.forall_mem_cons.mpr ⟨lw_p3, List.forall_mem_cons.mpr ⟨lw_p4, List.forall_mem_cons.mpr ⟨lw_p5, List.forall_mem_cons.mpr ⟨lw_p6, List.forall_mem_cons.mpr ⟨lw_p7, List.forall_mem_cons.mpr ⟨lw_p8, List.forall_mem_cons.mpr ⟨lw_p9, List.forall_mem_cons.mpr ⟨lw_p10, List.forall_mem_cons.mpr ⟨lw_p11, List.forall_mem_cons.mpr ⟨lw_p12, List.forall_mem_cons.mpr ⟨lw_p13, List.forall_mem_cons.mpr ⟨lw_p14, List.forall_mem_cons.mpr ⟨lw_p15, fun _ h => absurd h List.not_mem_nil⟩⟩⟩⟩⟩⟩⟩⟩⟩⟩⟩⟩⟩⟩⟩⟩
theorem lw_p16 : lw_okq (⟨"ChairCabinet", "isInByPlan", "(III)Z"⟩, 14) := ⟨⟨by decide +kernel, by decide +kernel⟩, List.mem_of_getElem? (i := 12) (by decide +kernel), List.mem_of_getElem? (i := 429) (by decide +kernel), List.mem_of_getElem? (i := 430) (by decide +kernel)⟩
theorem lw_p17 : lw_okq (⟨"ChairCabinet", "clueRefusal", "(II)I"⟩, 14) := ⟨⟨by decide +kernel, by decide +kernel⟩, List.mem_of_getElem? (i := 12) (by decide +kernel), List.mem_of_getElem? (i := 441) (by decide +kernel), List.mem_of_getElem? (i := 442) (by decide +kernel)⟩
theorem lw_p18 : lw_okq (⟨"ChairCabinet", "fits", "(IIII)Z"⟩, 14) := ⟨⟨by decide +kernel, by decide +kernel⟩, List.mem_of_getElem? (i := 12) (by decide +kernel), List.mem_of_getElem? (i := 445) (by decide +kernel), List.mem_of_getElem? (i := 446) (by decide +kernel)⟩
theorem lw_p19 : lw_okq (⟨"ChairCabinet", "tellMeanOf", "(III)I"⟩, 14) := ⟨⟨by decide +kernel, by decide +kernel⟩, List.mem_of_getElem? (i := 12) (by decide +kernel), List.mem_of_getElem? (i := 473) (by decide +kernel), List.mem_of_getElem? (i := 474) (by decide +kernel)⟩
theorem lw_p20 : lw_okq (⟨"ChairCabinet", "deedByLot", "(I)I"⟩, 14) := ⟨⟨by decide +kernel, by decide +kernel⟩, List.mem_of_getElem? (i := 12) (by decide +kernel), List.mem_of_getElem? (i := 492) (by decide +kernel), List.mem_of_getElem? (i := 493) (by decide +kernel)⟩
theorem lw_p21 : lw_okq (⟨"ChairCabinet", "howManyKept", "()I"⟩, 14) := ⟨⟨by decide +kernel, by decide +kernel⟩, List.mem_of_getElem? (i := 12) (by decide +kernel), List.mem_of_getElem? (i := 521) (by decide +kernel), List.mem_of_getElem? (i := 522) (by decide +kernel)⟩
theorem lw_p22 : lw_okq (⟨"ChairCabinet", "ministerNumber", "(II)I"⟩, 14) := ⟨⟨by decide +kernel, by decide +kernel⟩, List.mem_of_getElem? (i := 12) (by decide +kernel), List.mem_of_getElem? (i := 532) (by decide +kernel), List.mem_of_getElem? (i := 533) (by decide +kernel)⟩
theorem lw_p23 : lw_okq (⟨"ChairCabinet$Reader", "skipBlanks", "([II)V"⟩, 3) := ⟨⟨by decide +kernel, by decide +kernel⟩, List.mem_of_getElem? (i := 45) (by decide +kernel), List.mem_of_getElem? (i := 572) (by decide +kernel), List.mem_of_getElem? (i := 573) (by decide +kernel)⟩
theorem lw_p24 : lw_okq (⟨"ChairCabinet$Reader", "readChairs", "([II)Z"⟩, 3) := ⟨⟨by decide +kernel, by decide +kernel⟩, List.mem_of_getElem? (i := 45) (by decide +kernel), List.mem_of_getElem? (i := 576) (by decide +kernel), List.mem_of_getElem? (i := 577) (by decide +kernel)⟩
theorem lw_p25 : lw_okq (⟨"ChairCabinet$Reader", "readMinister", "([II)Z"⟩, 3) := ⟨⟨by decide +kernel, by decide +kernel⟩, List.mem_of_getElem? (i := 45) (by decide +kernel), List.mem_of_getElem? (i := 580) (by decide +kernel), List.mem_of_getElem? (i := 581) (by decide +kernel)⟩
theorem lw_p26 : lw_okq (⟨"ChairCabinet$Reader", "readFigure", "([IIII)I"⟩, 3) := ⟨⟨by decide +kernel, by decide +kernel⟩, List.mem_of_getElem? (i := 45) (by decide +kernel), List.mem_of_getElem? (i := 589) (by decide +kernel), List.mem_of_getElem? (i := 590) (by decide +kernel)⟩
def lw_privs_2 : List (MethodName × Nat) := [(⟨"ChairCabinet", "isInByPlan", "(III)Z"⟩, 14), (⟨"ChairCabinet", "clueRefusal", "(II)I"⟩, 14), (⟨"ChairCabinet", "fits", "(IIII)Z"⟩, 14), (⟨"ChairCabinet", "tellMeanOf", "(III)I"⟩, 14), (⟨"ChairCabinet", "deedByLot", "(I)I"⟩, 14), (⟨"ChairCabinet", "howManyKept", "()I"⟩, 14), (⟨"ChairCabinet", "ministerNumber", "(II)I"⟩, 14), (⟨"ChairCabinet$Reader", "skipBlanks", "([II)V"⟩, 3), (⟨"ChairCabinet$Reader", "readChairs", "([II)Z"⟩, 3), (⟨"ChairCabinet$Reader", "readMinister", "([II)Z"⟩, 3), (⟨"ChairCabinet$Reader", "readFigure", "([IIII)I"⟩, 3)]
theorem lw_r2 : ∀ q ∈ lw_privs_2, lw_okq q := List.forall_mem_cons.mpr ⟨lw_p16, List.forall_mem_cons.mpr ⟨lw_p17, List.forall_mem_cons.mpr ⟨lw_p18, List.forall_mem_cons.mpr ⟨lw_p19, List.forall_mem_cons.mpr ⟨lw_p20, List.forall_mem_cons.mpr ⟨lw_p21, List.forall_mem_cons.mpr ⟨lw_p22, List.forall_mem_cons.mpr ⟨lw_p23, List.forall_mem_cons.mpr ⟨lw_p24, List.forall_mem_cons.mpr ⟨lw_p25, List.forall_mem_cons.mpr ⟨lw_p26, fun _ h => absurd h List.not_mem_nil⟩⟩⟩⟩⟩⟩⟩⟩⟩⟩⟩
def lw_privs : List (MethodName × Nat) := lw_privs_1 ++ (lw_privs_2)
def lw_tbl : List Cond := k2_sels lw_privs ++ tables_1
theorem lw_privs_ok : ∀ q ∈ lw_privs, lw_okq q := by
  show ∀ q ∈ lw_privs_1 ++ (lw_privs_2), lw_okq q
  exact List.forall_mem_append.mpr ⟨lw_r1, lw_r2⟩
theorem vr_outer (c : ClassId) (N h0 : Nat) : ∀ i : Nat, Jvm.Free.Multi.outerC c N h0 i = arrV c N (fun j => va_rf (if j < i then some (h0 + 1 + j) else none))
  | 0 => by
    show ({ cls := c, slots := Array.replicate N .null, vm := .none } : Cell) = _
    rw [arrV_new]
    refine congrArg (arrV c N) (funext fun j => ?_)
    simp [va_rf]
  | i + 1 => by
    show (Jvm.Free.Multi.outerC c N h0 i).setSlot i (.ref (h0 + 1 + i)) = _
    rw [vr_outer c N h0 i, arrV_store]
    refine congrArg (arrV c N) (funext fun j => ?_)
    by_cases e : j = i
    · subst e
      simp [updV, va_rf]
    · by_cases h : j < i
      · simp [updV, e, h, Nat.lt_succ_of_lt h]
      · simp [updV, e, h, show ¬ j < i + 1 by omega]
def RX0 : String := "ChairCabinet$Deeds"
def TX0 : u_T := fun k => match k with
  | 0 => ("ChairCabinet$Deeds", "codes", "[I", true)
  | _ => ("ChairCabinet$Deeds", "count", "I", false)
def tyX0 : Nat → FieldType := fun k => match k with
  | 0 => .array .int
  | _ => .int
abbrev wsX00 : List Cond := u_ws RX0 TX0 2
theorem nmX0 : ∀ a, a < 2 → ∀ b, b < 2 → a ≠ b → (TX0 a).2.1 ≠ (TX0 b).2.1 := by decide +kernel
theorem tyX0_ok : ∀ k, k < 2 → parseFieldDescriptor (TX0 k).2.2.1 = some (tyX0 k) := by decide +kernel
def RX1 : String := "ChairCabinet$Manner"
def TX1 : u_T := fun k => match k with
  | _ => ("", "", "", false)
def tyX1 : Nat → FieldType := fun k => match k with
  | _ => .int
abbrev wsX10 : List Cond := u_ws RX1 TX1 0
theorem nmX1 : ∀ a, a < 0 → ∀ b, b < 0 → a ≠ b → (TX1 a).2.1 ≠ (TX1 b).2.1 := by decide +kernel
theorem tyX1_ok : ∀ k, k < 0 → parseFieldDescriptor (TX1 k).2.2.1 = some (tyX1 k) := by decide +kernel
def RX2 : String := "ChairCabinet$Ministers"
def TX2 : u_T := fun k => match k with
  | 0 => ("ChairCabinet$Ministers", "kinds", "[I", true)
  | 1 => ("ChairCabinet$Ministers", "paces", "[I", true)
  | 2 => ("ChairCabinet$Ministers", "cunnings", "[I", true)
  | 3 => ("ChairCabinet$Ministers", "order", "[I", true)
  | _ => ("ChairCabinet$Ministers", "count", "I", false)
def tyX2 : Nat → FieldType := fun k => match k with
  | 0 => .array .int
  | 1 => .array .int
  | 2 => .array .int
  | 3 => .array .int
  | _ => .int
abbrev wsX20 : List Cond := u_ws RX2 TX2 5
theorem nmX2 : ∀ a, a < 5 → ∀ b, b < 5 → a ≠ b → (TX2 a).2.1 ≠ (TX2 b).2.1 := by decide +kernel
theorem tyX2_ok : ∀ k, k < 5 → parseFieldDescriptor (TX2 k).2.2.1 = some (tyX2 k) := by decide +kernel
def RX3 : String := "ChairCabinet$Reader"
def TX3 : u_T := fun k => match k with
  | 0 => ("ChairCabinet$Reader", "ministers", "LChairCabinet$Ministers;", true)
  | 1 => ("ChairCabinet$Reader", "ring", "LChairCabinet$Ring;", true)
  | _ => ("ChairCabinet$Reader", "next", "I", false)
def tyX3 : Nat → FieldType := fun k => match k with
  | 0 => .object "ChairCabinet$Ministers"
  | 1 => .object "ChairCabinet$Ring"
  | _ => .int
abbrev wsX30 : List Cond := u_ws RX3 TX3 3
theorem nmX3 : ∀ a, a < 3 → ∀ b, b < 3 → a ≠ b → (TX3 a).2.1 ≠ (TX3 b).2.1 := by decide +kernel
theorem tyX3_ok : ∀ k, k < 3 → parseFieldDescriptor (TX3 k).2.2.1 = some (tyX3 k) := by decide +kernel
def RX4 : String := "ChairCabinet$Ring"
def TX4 : u_T := fun k => match k with
  | 0 => ("ChairCabinet$Ring", "places", "[I", true)
  | 1 => ("ChairCabinet$Ring", "in", "I", false)
  | 2 => ("ChairCabinet$Ring", "chairs", "I", false)
  | 3 => ("ChairCabinet$Ring", "taken", "I", false)
  | 4 => ("ChairCabinet$Ring", "bars", "I", false)
  | _ => ("ChairCabinet$Ring", "stops", "I", false)
def tyX4 : Nat → FieldType := fun k => match k with
  | 0 => .array .int
  | 1 => .int
  | 2 => .int
  | 3 => .int
  | 4 => .int
  | _ => .int
abbrev wsX40 : List Cond := u_ws RX4 TX4 6
theorem nmX4 : ∀ a, a < 6 → ∀ b, b < 6 → a ≠ b → (TX4 a).2.1 ≠ (TX4 b).2.1 := by decide +kernel
theorem tyX4_ok : ∀ k, k < 6 → parseFieldDescriptor (TX4 k).2.2.1 = some (tyX4 k) := by decide +kernel
def RX5 : String := "ChairCabinet$Shelf"
def TX5 : u_T := fun k => match k with
  | 0 => ("ChairCabinet$Shelf", "most", "I", true)
  | 1 => ("ChairCabinet$Shelf", "items", "[[I", true)
  | _ => ("ChairCabinet$Shelf", "sizes", "[I", true)
def tyX5 : Nat → FieldType := fun k => match k with
  | 0 => .int
  | 1 => .array (.array .int)
  | _ => .array .int
abbrev wsX50 : List Cond := u_ws RX5 TX5 3
theorem nmX5 : ∀ a, a < 3 → ∀ b, b < 3 → a ≠ b → (TX5 a).2.1 ≠ (TX5 b).2.1 := by decide +kernel
theorem tyX5_ok : ∀ k, k < 3 → parseFieldDescriptor (TX5 k).2.2.1 = some (tyX5 k) := by decide +kernel
def RX6 : String := "ChairCabinet"
def TX6 : u_T := fun k => match k with
  | 0 => ("ChairCabinet", "rows", "LChairCabinet$Shelf;", true)
  | 1 => ("ChairCabinet", "texts", "LChairCabinet$Shelf;", true)
  | 2 => ("ChairCabinet", "reader", "LChairCabinet$Reader;", true)
  | 3 => ("ChairCabinet", "ministers", "LChairCabinet$Ministers;", true)
  | 4 => ("ChairCabinet", "start", "LChairCabinet$Ring;", true)
  | 5 => ("ChairCabinet", "now", "LChairCabinet$Ring;", true)
  | 6 => ("ChairCabinet", "aside", "LChairCabinet$Ring;", true)
  | 7 => ("ChairCabinet", "deeds", "LChairCabinet$Deeds;", true)
  | 8 => ("ChairCabinet", "kept", "[LChairCabinet$Deeds;", true)
  | 9 => ("ChairCabinet", "findingCounts", "[I", true)
  | 10 => ("ChairCabinet", "latestFinding", "I", false)
  | 11 => ("ChairCabinet", "told", "I", false)
  | 12 => ("ChairCabinet", "toldUpper", "J", false)
  | _ => ("ChairCabinet", "toldLower", "J", false)
def tyX6 : Nat → FieldType := fun k => match k with
  | 0 => .object "ChairCabinet$Shelf"
  | 1 => .object "ChairCabinet$Shelf"
  | 2 => .object "ChairCabinet$Reader"
  | 3 => .object "ChairCabinet$Ministers"
  | 4 => .object "ChairCabinet$Ring"
  | 5 => .object "ChairCabinet$Ring"
  | 6 => .object "ChairCabinet$Ring"
  | 7 => .object "ChairCabinet$Deeds"
  | 8 => .array (.object "ChairCabinet$Deeds")
  | 9 => .array .int
  | 10 => .int
  | 11 => .int
  | 12 => .long
  | _ => .long
abbrev wsX60 : List Cond := u_ws RX6 TX6 14
theorem nmX6 : ∀ a, a < 14 → ∀ b, b < 14 → a ≠ b → (TX6 a).2.1 ≠ (TX6 b).2.1 := by decide +kernel
theorem tyX6_ok : ∀ k, k < 14 → parseFieldDescriptor (TX6 k).2.2.1 = some (tyX6 k) := by decide +kernel
def RX7 : String := "ChairCabinetModel"
def TX7 : u_T := fun k => match k with
  | _ => ("", "", "", false)
def tyX7 : Nat → FieldType := fun k => match k with
  | _ => .int
abbrev wsX70 : List Cond := u_ws RX7 TX7 0
theorem nmX7 : ∀ a, a < 0 → ∀ b, b < 0 → a ≠ b → (TX7 a).2.1 ≠ (TX7 b).2.1 := by decide +kernel
theorem tyX7_ok : ∀ k, k < 0 → parseFieldDescriptor (TX7 k).2.2.1 = some (tyX7 k) := by decide +kernel
abbrev vwCl : List vw_C := [(RX0, TX0, 2), (RX2, TX2, 5), (RX3, TX3, 3), (RX4, TX4, 6), (RX5, TX5, 3), (RX6, TX6, 14)]
theorem ax_idx {ws : List Cond} (ps : List Nat) (hp : ws = ps.filterMap (fun i => lw_tbl[i]?)) (hg : ws.all goodWord = true) : ∀ w ∈ ws, w ∈ lw_tbl.filter goodWord := by
  intro w hw
  refine List.mem_filter.mpr ⟨?_, List.all_eq_true.mp hg w hw⟩
  rw [hp] at hw
  obtain ⟨i, -, hi⟩ := List.mem_filterMap.mp hw
  exact List.mem_of_getElem? hi
theorem ax_cw0 : ∀ w ∈ u_ws RX0 TX0 2, w ∈ lw_tbl.filter goodWord := ax_idx [168, 170] (by decide +kernel) (by decide +kernel)
theorem ax_cw2 : ∀ w ∈ u_ws RX2 TX2 5, w ∈ lw_tbl.filter goodWord := ax_idx [97, 99, 101, 103, 105] (by decide +kernel) (by decide +kernel)
theorem ax_cw3 : ∀ w ∈ u_ws RX3 TX3 3, w ∈ lw_tbl.filter goodWord := ax_idx [147, 149, 151] (by decide +kernel) (by decide +kernel)
theorem ax_cw4 : ∀ w ∈ u_ws RX4 TX4 6, w ∈ lw_tbl.filter goodWord := ax_idx [129, 131, 133, 135, 137, 139] (by decide +kernel) (by decide +kernel)
theorem ax_cw5 : ∀ w ∈ u_ws RX5 TX5 3, w ∈ lw_tbl.filter goodWord := ax_idx [63, 65, 67] (by decide +kernel) (by decide +kernel)
theorem ax_cw6 : ∀ w ∈ u_ws RX6 TX6 14, w ∈ lw_tbl.filter goodWord := ax_idx [188, 190, 192, 194, 196, 198, 200, 202, 204, 206, 208, 210, 212, 214] (by decide +kernel) (by decide +kernel)
theorem ax_cwin : ∀ q ∈ vwCl, ∀ w ∈ u_ws q.1 q.2.1 q.2.2, w ∈ lw_tbl.filter goodWord := List.forall_mem_cons.mpr ⟨ax_cw0, List.forall_mem_cons.mpr ⟨ax_cw2, List.forall_mem_cons.mpr ⟨ax_cw3, List.forall_mem_cons.mpr ⟨ax_cw4, List.forall_mem_cons.mpr ⟨ax_cw5, List.forall_mem_cons.mpr ⟨ax_cw6, fun _ h => absurd h List.not_mem_nil⟩⟩⟩⟩⟩⟩
theorem ax_cnm : ∀ q ∈ vwCl, ∀ a, a < q.2.2 → ∀ b, b < q.2.2 → a ≠ b → (q.2.1 a).2.1 ≠ (q.2.1 b).2.1 := List.forall_mem_cons.mpr ⟨nmX0, List.forall_mem_cons.mpr ⟨nmX2, List.forall_mem_cons.mpr ⟨nmX3, List.forall_mem_cons.mpr ⟨nmX4, List.forall_mem_cons.mpr ⟨nmX5, List.forall_mem_cons.mpr ⟨nmX6, fun _ h => absurd h List.not_mem_nil⟩⟩⟩⟩⟩⟩
theorem ax_cty : ∀ q ∈ vwCl, ∃ ty : Nat → FieldType, ∀ k, k < q.2.2 → parseFieldDescriptor (q.2.1 k).2.2.1 = some (ty k) := List.forall_mem_cons.mpr ⟨⟨tyX0, tyX0_ok⟩, List.forall_mem_cons.mpr ⟨⟨tyX2, tyX2_ok⟩, List.forall_mem_cons.mpr ⟨⟨tyX3, tyX3_ok⟩, List.forall_mem_cons.mpr ⟨⟨tyX4, tyX4_ok⟩, List.forall_mem_cons.mpr ⟨⟨tyX5, tyX5_ok⟩, List.forall_mem_cons.mpr ⟨⟨tyX6, tyX6_ok⟩, fun _ h => absurd h List.not_mem_nil⟩⟩⟩⟩⟩⟩
