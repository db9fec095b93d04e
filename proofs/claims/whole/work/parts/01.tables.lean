-- ===== PART A: goes FIRST, ahead of the names: the tables' words, and 'selects' of the private methods out of them =====
/-- a private method of a class that the tables say can be made, by its rows of tables_1 -/
def lw_okq (q : MethodName × Nat) : Prop := (q.1.cls ≠ "java/lang/invoke/MethodHandle" ∧ q.1.cls ≠ "java/lang/invoke/VarHandle") ∧ Cond.instantiable q.1.cls q.2 ∈ tables_1 ∧ Cond.privateMethod q.1 ∈ tables_1 ∧ Cond.instanceMethod q.1 ∈ tables_1
theorem lw_p0 : lw_okq (⟨"ChairCabinet", "renewed", "(LChairCabinet$Shelf;III)I"⟩, 14) := ⟨⟨by decide +kernel, by decide +kernel⟩, List.mem_of_getElem? (i := 13) (by decide +kernel), List.mem_of_getElem? (i := 196) (by decide +kernel), List.mem_of_getElem? (i := 197) (by decide +kernel)⟩
theorem lw_p1 : lw_okq (⟨"ChairCabinet", "found", "(I)I"⟩, 14) := ⟨⟨by decide +kernel, by decide +kernel⟩, List.mem_of_getElem? (i := 13) (by decide +kernel), List.mem_of_getElem? (i := 204) (by decide +kernel), List.mem_of_getElem? (i := 205) (by decide +kernel)⟩
theorem lw_p2 : lw_okq (⟨"ChairCabinet", "placeRefusal", "(LChairCabinet$Shelf;II)I"⟩, 14) := ⟨⟨by decide +kernel, by decide +kernel⟩, List.mem_of_getElem? (i := 13) (by decide +kernel), List.mem_of_getElem? (i := 222) (by decide +kernel), List.mem_of_getElem? (i := 223) (by decide +kernel)⟩
theorem lw_p3 : lw_okq (⟨"ChairCabinet", "listRefusal", "(LChairCabinet$Shelf;I)I"⟩, 14) := ⟨⟨by decide +kernel, by decide +kernel⟩, List.mem_of_getElem? (i := 13) (by decide +kernel), List.mem_of_getElem? (i := 226) (by decide +kernel), List.mem_of_getElem? (i := 227) (by decide +kernel)⟩
theorem lw_p4 : lw_okq (⟨"ChairCabinet", "tell", "(I)I"⟩, 14) := ⟨⟨by decide +kernel, by decide +kernel⟩, List.mem_of_getElem? (i := 13) (by decide +kernel), List.mem_of_getElem? (i := 242) (by decide +kernel), List.mem_of_getElem? (i := 243) (by decide +kernel)⟩
theorem lw_p5 : lw_okq (⟨"ChairCabinet$Reader", "skipBlanks", "([II)V"⟩, 3) := ⟨⟨by decide +kernel, by decide +kernel⟩, List.mem_of_getElem? (i := 46) (by decide +kernel), List.mem_of_getElem? (i := 285) (by decide +kernel), List.mem_of_getElem? (i := 286) (by decide +kernel)⟩
theorem lw_p6 : lw_okq (⟨"ChairCabinet$Reader", "readChairs", "([II)Z"⟩, 3) := ⟨⟨by decide +kernel, by decide +kernel⟩, List.mem_of_getElem? (i := 46) (by decide +kernel), List.mem_of_getElem? (i := 289) (by decide +kernel), List.mem_of_getElem? (i := 290) (by decide +kernel)⟩
theorem lw_p7 : lw_okq (⟨"ChairCabinet$Reader", "readMinister", "([II)Z"⟩, 3) := ⟨⟨by decide +kernel, by decide +kernel⟩, List.mem_of_getElem? (i := 46) (by decide +kernel), List.mem_of_getElem? (i := 293) (by decide +kernel), List.mem_of_getElem? (i := 294) (by decide +kernel)⟩
theorem lw_p8 : lw_okq (⟨"ChairCabinet$Reader", "readFigure", "([IIII)I"⟩, 3) := ⟨⟨by decide +kernel, by decide +kernel⟩, List.mem_of_getElem? (i := 46) (by decide +kernel), List.mem_of_getElem? (i := 302) (by decide +kernel), List.mem_of_getElem? (i := 303) (by decide +kernel)⟩
theorem lw_p9 : lw_okq (⟨"ChairCabinet", "isMinister", "(I)Z"⟩, 14) := ⟨⟨by decide +kernel, by decide +kernel⟩, List.mem_of_getElem? (i := 13) (by decide +kernel), List.mem_of_getElem? (i := 328) (by decide +kernel), List.mem_of_getElem? (i := 329) (by decide +kernel)⟩
theorem lw_p10 : lw_okq (⟨"ChairCabinet", "ministerNumber", "(II)I"⟩, 14) := ⟨⟨by decide +kernel, by decide +kernel⟩, List.mem_of_getElem? (i := 13) (by decide +kernel), List.mem_of_getElem? (i := 332) (by decide +kernel), List.mem_of_getElem? (i := 333) (by decide +kernel)⟩
theorem lw_p11 : lw_okq (⟨"ChairCabinet", "howManyMoreCunning", "(I)I"⟩, 14) := ⟨⟨by decide +kernel, by decide +kernel⟩, List.mem_of_getElem? (i := 13) (by decide +kernel), List.mem_of_getElem? (i := 362) (by decide +kernel), List.mem_of_getElem? (i := 363) (by decide +kernel)⟩
theorem lw_p12 : lw_okq (⟨"ChairCabinet", "placeAfter", "(II)I"⟩, 14) := ⟨⟨by decide +kernel, by decide +kernel⟩, List.mem_of_getElem? (i := 13) (by decide +kernel), List.mem_of_getElem? (i := 366) (by decide +kernel), List.mem_of_getElem? (i := 367) (by decide +kernel)⟩
theorem lw_p13 : lw_okq (⟨"ChairCabinet", "howManyNear", "(I)I"⟩, 14) := ⟨⟨by decide +kernel, by decide +kernel⟩, List.mem_of_getElem? (i := 13) (by decide +kernel), List.mem_of_getElem? (i := 374) (by decide +kernel), List.mem_of_getElem? (i := 375) (by decide +kernel)⟩
theorem lw_p14 : lw_okq (⟨"ChairCabinet", "deedRefusal", "(I)I"⟩, 14) := ⟨⟨by decide +kernel, by decide +kernel⟩, List.mem_of_getElem? (i := 13) (by decide +kernel), List.mem_of_getElem? (i := 389) (by decide +kernel), List.mem_of_getElem? (i := 390) (by decide +kernel)⟩
theorem lw_p15 : lw_okq (⟨"ChairCabinet", "act", "(I)V"⟩, 14) := ⟨⟨by decide +kernel, by decide +kernel⟩, List.mem_of_getElem? (i := 13) (by decide +kernel), List.mem_of_getElem? (i := 397) (by decide +kernel), List.mem_of_getElem? (i := 398) (by decide +kernel)⟩
def lw_privs_1 : List (MethodName × Nat) := [(⟨"ChairCabinet", "renewed", "(LChairCabinet$Shelf;III)I"⟩, 14), (⟨"ChairCabinet", "found", "(I)I"⟩, 14), (⟨"ChairCabinet", "placeRefusal", "(LChairCabinet$Shelf;II)I"⟩, 14), (⟨"ChairCabinet", "listRefusal", "(LChairCabinet$Shelf;I)I"⟩, 14), (⟨"ChairCabinet", "tell", "(I)I"⟩, 14), (⟨"ChairCabinet$Reader", "skipBlanks", "([II)V"⟩, 3), (⟨"ChairCabinet$Reader", "readChairs", "([II)Z"⟩, 3), (⟨"ChairCabinet$Reader", "readMinister", "([II)Z"⟩, 3), (⟨"ChairCabinet$Reader", "readFigure", "([IIII)I"⟩, 3), (⟨"ChairCabinet", "isMinister", "(I)Z"⟩, 14), (⟨"ChairCabinet", "ministerNumber", "(II)I"⟩, 14), (⟨"ChairCabinet", "howManyMoreCunning", "(I)I"⟩, 14), (⟨"ChairCabinet", "placeAfter", "(II)I"⟩, 14), (⟨"ChairCabinet", "howManyNear", "(I)I"⟩, 14), (⟨"ChairCabinet", "deedRefusal", "(I)I"⟩, 14), (⟨"ChairCabinet", "act", "(I)V"⟩, 14)]
theorem lw_r1 : ∀ q ∈ lw_privs_1, lw_okq q := List.forall_mem_cons.mpr ⟨lw_p0, List.forall_mem_cons.mpr ⟨lw_p1, List.forall_mem_cons.mpr ⟨lw_p2, List.forall_mem_cons.mpr ⟨lw_p3, List.forall_mem_cons.mpr ⟨lw_p4, List.forall_mem_cons.mpr ⟨lw_p5, List.forall_mem_cons.mpr ⟨lw_p6, List.forall_mem_cons.mpr ⟨lw_p7, List.forall_mem_cons.mpr ⟨lw_p8, List.forall_mem_cons.mpr ⟨lw_p9, List.forall_mem_cons.mpr ⟨lw_p10, List.forall_mem_cons.mpr ⟨lw_p11, List.forall_mem_cons.mpr ⟨lw_p12, List.forall_mem_cons.mpr ⟨lw_p13, List.forall_mem_cons.mpr ⟨lw_p14, List.forall_mem_cons.mpr ⟨lw_p15, fun _ h => absurd h List.not_mem_nil⟩⟩⟩⟩⟩⟩⟩⟩⟩⟩⟩⟩⟩⟩⟩⟩
theorem lw_p16 : lw_okq (⟨"ChairCabinet$Ring", "seat", "(LChairCabinet$Ministers;I)V"⟩, 6) := ⟨⟨by decide +kernel, by decide +kernel⟩, List.mem_of_getElem? (i := 83) (by decide +kernel), List.mem_of_getElem? (i := 420) (by decide +kernel), List.mem_of_getElem? (i := 421) (by decide +kernel)⟩
theorem lw_p17 : lw_okq (⟨"ChairCabinet", "replay", "()V"⟩, 14) := ⟨⟨by decide +kernel, by decide +kernel⟩, List.mem_of_getElem? (i := 13) (by decide +kernel), List.mem_of_getElem? (i := 454) (by decide +kernel), List.mem_of_getElem? (i := 455) (by decide +kernel)⟩
theorem lw_p18 : lw_okq (⟨"ChairCabinet", "isKeeping", "(I)Z"⟩, 14) := ⟨⟨by decide +kernel, by decide +kernel⟩, List.mem_of_getElem? (i := 13) (by decide +kernel), List.mem_of_getElem? (i := 462) (by decide +kernel), List.mem_of_getElem? (i := 463) (by decide +kernel)⟩
theorem lw_p19 : lw_okq (⟨"ChairCabinet", "asideRefusal", "(III)I"⟩, 14) := ⟨⟨by decide +kernel, by decide +kernel⟩, List.mem_of_getElem? (i := 13) (by decide +kernel), List.mem_of_getElem? (i := 479) (by decide +kernel), List.mem_of_getElem? (i := 480) (by decide +kernel)⟩
theorem lw_p20 : lw_okq (⟨"ChairCabinet", "stopAside", "(II)V"⟩, 14) := ⟨⟨by decide +kernel, by decide +kernel⟩, List.mem_of_getElem? (i := 13) (by decide +kernel), List.mem_of_getElem? (i := 487) (by decide +kernel), List.mem_of_getElem? (i := 488) (by decide +kernel)⟩
theorem lw_p21 : lw_okq (⟨"ChairCabinet", "barsToBeIn", "(II)I"⟩, 14) := ⟨⟨by decide +kernel, by decide +kernel⟩, List.mem_of_getElem? (i := 13) (by decide +kernel), List.mem_of_getElem? (i := 497) (by decide +kernel), List.mem_of_getElem? (i := 498) (by decide +kernel)⟩
theorem lw_p22 : lw_okq (⟨"ChairCabinet", "wouldBeIn", "(III)Z"⟩, 14) := ⟨⟨by decide +kernel, by decide +kernel⟩, List.mem_of_getElem? (i := 13) (by decide +kernel), List.mem_of_getElem? (i := 509) (by decide +kernel), List.mem_of_getElem? (i := 510) (by decide +kernel)⟩
theorem lw_p23 : lw_okq (⟨"ChairCabinet", "isInByPlan", "(III)Z"⟩, 14) := ⟨⟨by decide +kernel, by decide +kernel⟩, List.mem_of_getElem? (i := 13) (by decide +kernel), List.mem_of_getElem? (i := 527) (by decide +kernel), List.mem_of_getElem? (i := 528) (by decide +kernel)⟩
theorem lw_p24 : lw_okq (⟨"ChairCabinet", "clueRefusal", "(II)I"⟩, 14) := ⟨⟨by decide +kernel, by decide +kernel⟩, List.mem_of_getElem? (i := 13) (by decide +kernel), List.mem_of_getElem? (i := 539) (by decide +kernel), List.mem_of_getElem? (i := 540) (by decide +kernel)⟩
theorem lw_p25 : lw_okq (⟨"ChairCabinet", "fits", "(IIII)Z"⟩, 14) := ⟨⟨by decide +kernel, by decide +kernel⟩, List.mem_of_getElem? (i := 13) (by decide +kernel), List.mem_of_getElem? (i := 543) (by decide +kernel), List.mem_of_getElem? (i := 544) (by decide +kernel)⟩
theorem lw_p26 : lw_okq (⟨"ChairCabinet", "tellMeanOf", "(III)I"⟩, 14) := ⟨⟨by decide +kernel, by decide +kernel⟩, List.mem_of_getElem? (i := 13) (by decide +kernel), List.mem_of_getElem? (i := 571) (by decide +kernel), List.mem_of_getElem? (i := 572) (by decide +kernel)⟩
theorem lw_p27 : lw_okq (⟨"ChairCabinet", "deedByLot", "(I)I"⟩, 14) := ⟨⟨by decide +kernel, by decide +kernel⟩, List.mem_of_getElem? (i := 13) (by decide +kernel), List.mem_of_getElem? (i := 590) (by decide +kernel), List.mem_of_getElem? (i := 591) (by decide +kernel)⟩
theorem lw_p28 : lw_okq (⟨"ChairCabinet", "howManyKept", "()I"⟩, 14) := ⟨⟨by decide +kernel, by decide +kernel⟩, List.mem_of_getElem? (i := 13) (by decide +kernel), List.mem_of_getElem? (i := 619) (by decide +kernel), List.mem_of_getElem? (i := 620) (by decide +kernel)⟩
theorem lw_p29 : lw_okq (⟨"ChairCabinetModel", "found", "(I)I"⟩, 26) := ⟨⟨by decide +kernel, by decide +kernel⟩, List.mem_of_getElem? (i := 643) (by decide +kernel), List.mem_of_getElem? (i := 740) (by decide +kernel), List.mem_of_getElem? (i := 741) (by decide +kernel)⟩
theorem lw_p30 : lw_okq (⟨"ChairCabinetModel", "tell", "(I)I"⟩, 26) := ⟨⟨by decide +kernel, by decide +kernel⟩, List.mem_of_getElem? (i := 643) (by decide +kernel), List.mem_of_getElem? (i := 748) (by decide +kernel), List.mem_of_getElem? (i := 749) (by decide +kernel)⟩
theorem lw_p31 : lw_okq (⟨"ChairCabinetModel", "faultOf", "(I)I"⟩, 26) := ⟨⟨by decide +kernel, by decide +kernel⟩, List.mem_of_getElem? (i := 643) (by decide +kernel), List.mem_of_getElem? (i := 784) (by decide +kernel), List.mem_of_getElem? (i := 785) (by decide +kernel)⟩
def lw_privs_2 : List (MethodName × Nat) := [(⟨"ChairCabinet$Ring", "seat", "(LChairCabinet$Ministers;I)V"⟩, 6), (⟨"ChairCabinet", "replay", "()V"⟩, 14), (⟨"ChairCabinet", "isKeeping", "(I)Z"⟩, 14), (⟨"ChairCabinet", "asideRefusal", "(III)I"⟩, 14), (⟨"ChairCabinet", "stopAside", "(II)V"⟩, 14), (⟨"ChairCabinet", "barsToBeIn", "(II)I"⟩, 14), (⟨"ChairCabinet", "wouldBeIn", "(III)Z"⟩, 14), (⟨"ChairCabinet", "isInByPlan", "(III)Z"⟩, 14), (⟨"ChairCabinet", "clueRefusal", "(II)I"⟩, 14), (⟨"ChairCabinet", "fits", "(IIII)Z"⟩, 14), (⟨"ChairCabinet", "tellMeanOf", "(III)I"⟩, 14), (⟨"ChairCabinet", "deedByLot", "(I)I"⟩, 14), (⟨"ChairCabinet", "howManyKept", "()I"⟩, 14), (⟨"ChairCabinetModel", "found", "(I)I"⟩, 26), (⟨"ChairCabinetModel", "tell", "(I)I"⟩, 26), (⟨"ChairCabinetModel", "faultOf", "(I)I"⟩, 26)]
theorem lw_r2 : ∀ q ∈ lw_privs_2, lw_okq q := List.forall_mem_cons.mpr ⟨lw_p16, List.forall_mem_cons.mpr ⟨lw_p17, List.forall_mem_cons.mpr ⟨lw_p18, List.forall_mem_cons.mpr ⟨lw_p19, List.forall_mem_cons.mpr ⟨lw_p20, List.forall_mem_cons.mpr ⟨lw_p21, List.forall_mem_cons.mpr ⟨lw_p22, List.forall_mem_cons.mpr ⟨lw_p23, List.forall_mem_cons.mpr ⟨lw_p24, List.forall_mem_cons.mpr ⟨lw_p25, List.forall_mem_cons.mpr ⟨lw_p26, List.forall_mem_cons.mpr ⟨lw_p27, List.forall_mem_cons.mpr ⟨lw_p28, List.forall_mem_cons.mpr ⟨lw_p29, List.forall_mem_cons.mpr ⟨lw_p30, List.forall_mem_cons.mpr ⟨lw_p31, fun _ h => absurd h List.not_mem_nil⟩⟩⟩⟩⟩⟩⟩⟩⟩⟩⟩⟩⟩⟩⟩⟩
theorem lw_p32 : lw_okq (⟨"ChairCabinetModel", "blanks", "(I)V"⟩, 26) := ⟨⟨by decide +kernel, by decide +kernel⟩, List.mem_of_getElem? (i := 643) (by decide +kernel), List.mem_of_getElem? (i := 788) (by decide +kernel), List.mem_of_getElem? (i := 789) (by decide +kernel)⟩
theorem lw_p33 : lw_okq (⟨"ChairCabinetModel", "byteAt", "(I)I"⟩, 26) := ⟨⟨by decide +kernel, by decide +kernel⟩, List.mem_of_getElem? (i := 643) (by decide +kernel), List.mem_of_getElem? (i := 792) (by decide +kernel), List.mem_of_getElem? (i := 793) (by decide +kernel)⟩
theorem lw_p34 : lw_okq (⟨"ChairCabinetModel", "readsChairs", "(I)Z"⟩, 26) := ⟨⟨by decide +kernel, by decide +kernel⟩, List.mem_of_getElem? (i := 643) (by decide +kernel), List.mem_of_getElem? (i := 796) (by decide +kernel), List.mem_of_getElem? (i := 797) (by decide +kernel)⟩
theorem lw_p35 : lw_okq (⟨"ChairCabinetModel", "readsMinister", "(I)Z"⟩, 26) := ⟨⟨by decide +kernel, by decide +kernel⟩, List.mem_of_getElem? (i := 643) (by decide +kernel), List.mem_of_getElem? (i := 806) (by decide +kernel), List.mem_of_getElem? (i := 807) (by decide +kernel)⟩
theorem lw_p36 : lw_okq (⟨"ChairCabinetModel", "isMinister", "(I)Z"⟩, 26) := ⟨⟨by decide +kernel, by decide +kernel⟩, List.mem_of_getElem? (i := 643) (by decide +kernel), List.mem_of_getElem? (i := 822) (by decide +kernel), List.mem_of_getElem? (i := 823) (by decide +kernel)⟩
theorem lw_p37 : lw_okq (⟨"ChairCabinetModel", "told", "(II)I"⟩, 26) := ⟨⟨by decide +kernel, by decide +kernel⟩, List.mem_of_getElem? (i := 643) (by decide +kernel), List.mem_of_getElem? (i := 826) (by decide +kernel), List.mem_of_getElem? (i := 827) (by decide +kernel)⟩
theorem lw_p38 : lw_okq (⟨"ChairCabinetModel", "cunningOf", "(I)I"⟩, 26) := ⟨⟨by decide +kernel, by decide +kernel⟩, List.mem_of_getElem? (i := 643) (by decide +kernel), List.mem_of_getElem? (i := 830) (by decide +kernel), List.mem_of_getElem? (i := 831) (by decide +kernel)⟩
theorem lw_p39 : lw_okq (⟨"ChairCabinetModel", "isOut", "(I)Z"⟩, 26) := ⟨⟨by decide +kernel, by decide +kernel⟩, List.mem_of_getElem? (i := 643) (by decide +kernel), List.mem_of_getElem? (i := 834) (by decide +kernel), List.mem_of_getElem? (i := 835) (by decide +kernel)⟩
theorem lw_p40 : lw_okq (⟨"ChairCabinetModel", "walkOf", "([II)I"⟩, 26) := ⟨⟨by decide +kernel, by decide +kernel⟩, List.mem_of_getElem? (i := 643) (by decide +kernel), List.mem_of_getElem? (i := 841) (by decide +kernel), List.mem_of_getElem? (i := 842) (by decide +kernel)⟩
theorem lw_p41 : lw_okq (⟨"ChairCabinetModel", "within", "(IZ)I"⟩, 26) := ⟨⟨by decide +kernel, by decide +kernel⟩, List.mem_of_getElem? (i := 643) (by decide +kernel), List.mem_of_getElem? (i := 855) (by decide +kernel), List.mem_of_getElem? (i := 856) (by decide +kernel)⟩
theorem lw_p42 : lw_okq (⟨"ChairCabinetModel", "refuses", "()I"⟩, 26) := ⟨⟨by decide +kernel, by decide +kernel⟩, List.mem_of_getElem? (i := 643) (by decide +kernel), List.mem_of_getElem? (i := 866) (by decide +kernel), List.mem_of_getElem? (i := 867) (by decide +kernel)⟩
theorem lw_p43 : lw_okq (⟨"ChairCabinetModel", "remember", "()V"⟩, 26) := ⟨⟨by decide +kernel, by decide +kernel⟩, List.mem_of_getElem? (i := 643) (by decide +kernel), List.mem_of_getElem? (i := 870) (by decide +kernel), List.mem_of_getElem? (i := 871) (by decide +kernel)⟩
theorem lw_p44 : lw_okq (⟨"ChairCabinetModel", "barGoes", "([I)V"⟩, 26) := ⟨⟨by decide +kernel, by decide +kernel⟩, List.mem_of_getElem? (i := 643) (by decide +kernel), List.mem_of_getElem? (i := 877) (by decide +kernel), List.mem_of_getElem? (i := 878) (by decide +kernel)⟩
theorem lw_p45 : lw_okq (⟨"ChairCabinetModel", "stops", "([I)I"⟩, 26) := ⟨⟨by decide +kernel, by decide +kernel⟩, List.mem_of_getElem? (i := 643) (by decide +kernel), List.mem_of_getElem? (i := 885) (by decide +kernel), List.mem_of_getElem? (i := 886) (by decide +kernel)⟩
theorem lw_p46 : lw_okq (⟨"ChairCabinetModel", "nudges", "(I)V"⟩, 26) := ⟨⟨by decide +kernel, by decide +kernel⟩, List.mem_of_getElem? (i := 643) (by decide +kernel), List.mem_of_getElem? (i := 906) (by decide +kernel), List.mem_of_getElem? (i := 907) (by decide +kernel)⟩
theorem lw_p47 : lw_okq (⟨"ChairCabinetModel", "after", "(IIII)I"⟩, 26) := ⟨⟨by decide +kernel, by decide +kernel⟩, List.mem_of_getElem? (i := 643) (by decide +kernel), List.mem_of_getElem? (i := 928) (by decide +kernel), List.mem_of_getElem? (i := 929) (by decide +kernel)⟩
def lw_privs_3 : List (MethodName × Nat) := [(⟨"ChairCabinetModel", "blanks", "(I)V"⟩, 26), (⟨"ChairCabinetModel", "byteAt", "(I)I"⟩, 26), (⟨"ChairCabinetModel", "readsChairs", "(I)Z"⟩, 26), (⟨"ChairCabinetModel", "readsMinister", "(I)Z"⟩, 26), (⟨"ChairCabinetModel", "isMinister", "(I)Z"⟩, 26), (⟨"ChairCabinetModel", "told", "(II)I"⟩, 26), (⟨"ChairCabinetModel", "cunningOf", "(I)I"⟩, 26), (⟨"ChairCabinetModel", "isOut", "(I)Z"⟩, 26), (⟨"ChairCabinetModel", "walkOf", "([II)I"⟩, 26), (⟨"ChairCabinetModel", "within", "(IZ)I"⟩, 26), (⟨"ChairCabinetModel", "refuses", "()I"⟩, 26), (⟨"ChairCabinetModel", "remember", "()V"⟩, 26), (⟨"ChairCabinetModel", "barGoes", "([I)V"⟩, 26), (⟨"ChairCabinetModel", "stops", "([I)I"⟩, 26), (⟨"ChairCabinetModel", "nudges", "(I)V"⟩, 26), (⟨"ChairCabinetModel", "after", "(IIII)I"⟩, 26)]
theorem lw_r3 : ∀ q ∈ lw_privs_3, lw_okq q := List.forall_mem_cons.mpr ⟨lw_p32, List.forall_mem_cons.mpr ⟨lw_p33, List.forall_mem_cons.mpr ⟨lw_p34, List.forall_mem_cons.mpr ⟨lw_p35, List.forall_mem_cons.mpr ⟨lw_p36, List.forall_mem_cons.mpr ⟨lw_p37, List.forall_mem_cons.mpr ⟨lw_p38, List.forall_mem_cons.mpr ⟨lw_p39, List.forall_mem_cons.mpr ⟨lw_p40, List.forall_mem_cons.mpr ⟨lw_p41, List.forall_mem_cons.mpr ⟨lw_p42, List.forall_mem_cons.mpr ⟨lw_p43, List.forall_mem_cons.mpr ⟨lw_p44, List.forall_mem_cons.mpr ⟨lw_p45, List.forall_mem_cons.mpr ⟨lw_p46, List.forall_mem_cons.mpr ⟨lw_p47, fun _ h => absurd h List.not_mem_nil⟩⟩⟩⟩⟩⟩⟩⟩⟩⟩⟩⟩⟩⟩⟩⟩
theorem lw_p48 : lw_okq (⟨"ChairCabinetModel", "layAside", "()V"⟩, 26) := ⟨⟨by decide +kernel, by decide +kernel⟩, List.mem_of_getElem? (i := 643) (by decide +kernel), List.mem_of_getElem? (i := 937) (by decide +kernel), List.mem_of_getElem? (i := 938) (by decide +kernel)⟩
theorem lw_p49 : lw_okq (⟨"ChairCabinetModel", "stopsIn", "(I)I"⟩, 26) := ⟨⟨by decide +kernel, by decide +kernel⟩, List.mem_of_getElem? (i := 643) (by decide +kernel), List.mem_of_getElem? (i := 941) (by decide +kernel), List.mem_of_getElem? (i := 942) (by decide +kernel)⟩
theorem lw_p50 : lw_okq (⟨"ChairCabinetModel", "answer", "(II)I"⟩, 26) := ⟨⟨by decide +kernel, by decide +kernel⟩, List.mem_of_getElem? (i := 643) (by decide +kernel), List.mem_of_getElem? (i := 945) (by decide +kernel), List.mem_of_getElem? (i := 946) (by decide +kernel)⟩
theorem lw_p51 : lw_okq (⟨"ChairCabinetModel", "insBy", "(I)I"⟩, 26) := ⟨⟨by decide +kernel, by decide +kernel⟩, List.mem_of_getElem? (i := 643) (by decide +kernel), List.mem_of_getElem? (i := 953) (by decide +kernel), List.mem_of_getElem? (i := 954) (by decide +kernel)⟩
theorem lw_p52 : lw_okq (⟨"ChairCabinetModel", "roundsBy", "(III)I"⟩, 26) := ⟨⟨by decide +kernel, by decide +kernel⟩, List.mem_of_getElem? (i := 643) (by decide +kernel), List.mem_of_getElem? (i := 974) (by decide +kernel), List.mem_of_getElem? (i := 975) (by decide +kernel)⟩
theorem lw_p53 : lw_okq (⟨"ChairCabinetModel", "wrongPairs", "(I)I"⟩, 26) := ⟨⟨by decide +kernel, by decide +kernel⟩, List.mem_of_getElem? (i := 643) (by decide +kernel), List.mem_of_getElem? (i := 985) (by decide +kernel), List.mem_of_getElem? (i := 986) (by decide +kernel)⟩
theorem lw_p54 : lw_okq (⟨"ChairCabinetModel", "isSo", "(IIII)Z"⟩, 26) := ⟨⟨by decide +kernel, by decide +kernel⟩, List.mem_of_getElem? (i := 643) (by decide +kernel), List.mem_of_getElem? (i := 989) (by decide +kernel), List.mem_of_getElem? (i := 990) (by decide +kernel)⟩
theorem lw_p55 : lw_okq (⟨"ChairCabinetModel", "chances", "(III)I"⟩, 26) := ⟨⟨by decide +kernel, by decide +kernel⟩, List.mem_of_getElem? (i := 643) (by decide +kernel), List.mem_of_getElem? (i := 1015) (by decide +kernel), List.mem_of_getElem? (i := 1016) (by decide +kernel)⟩
theorem lw_p56 : lw_okq (⟨"ChairCabinetModel", "fraction", "(JJ)I"⟩, 26) := ⟨⟨by decide +kernel, by decide +kernel⟩, List.mem_of_getElem? (i := 643) (by decide +kernel), List.mem_of_getElem? (i := 1019) (by decide +kernel), List.mem_of_getElem? (i := 1020) (by decide +kernel)⟩
theorem lw_p57 : lw_okq (⟨"ChairCabinetModel", "plays", "(II)V"⟩, 26) := ⟨⟨by decide +kernel, by decide +kernel⟩, List.mem_of_getElem? (i := 643) (by decide +kernel), List.mem_of_getElem? (i := 1035) (by decide +kernel), List.mem_of_getElem? (i := 1036) (by decide +kernel)⟩
theorem lw_p58 : lw_okq (⟨"ChairCabinetModel", "counted", "(I)I"⟩, 26) := ⟨⟨by decide +kernel, by decide +kernel⟩, List.mem_of_getElem? (i := 643) (by decide +kernel), List.mem_of_getElem? (i := 1056) (by decide +kernel), List.mem_of_getElem? (i := 1057) (by decide +kernel)⟩
theorem lw_p59 : lw_okq (⟨"ChairCabinetModel", "kindsOf", "(I)I"⟩, 26) := ⟨⟨by decide +kernel, by decide +kernel⟩, List.mem_of_getElem? (i := 643) (by decide +kernel), List.mem_of_getElem? (i := 1060) (by decide +kernel), List.mem_of_getElem? (i := 1061) (by decide +kernel)⟩
def lw_privs_4 : List (MethodName × Nat) := [(⟨"ChairCabinetModel", "layAside", "()V"⟩, 26), (⟨"ChairCabinetModel", "stopsIn", "(I)I"⟩, 26), (⟨"ChairCabinetModel", "answer", "(II)I"⟩, 26), (⟨"ChairCabinetModel", "insBy", "(I)I"⟩, 26), (⟨"ChairCabinetModel", "roundsBy", "(III)I"⟩, 26), (⟨"ChairCabinetModel", "wrongPairs", "(I)I"⟩, 26), (⟨"ChairCabinetModel", "isSo", "(IIII)Z"⟩, 26), (⟨"ChairCabinetModel", "chances", "(III)I"⟩, 26), (⟨"ChairCabinetModel", "fraction", "(JJ)I"⟩, 26), (⟨"ChairCabinetModel", "plays", "(II)V"⟩, 26), (⟨"ChairCabinetModel", "counted", "(I)I"⟩, 26), (⟨"ChairCabinetModel", "kindsOf", "(I)I"⟩, 26)]
theorem lw_r4 : ∀ q ∈ lw_privs_4, lw_okq q := List.forall_mem_cons.mpr ⟨lw_p48, List.forall_mem_cons.mpr ⟨lw_p49, List.forall_mem_cons.mpr ⟨lw_p50, List.forall_mem_cons.mpr ⟨lw_p51, List.forall_mem_cons.mpr ⟨lw_p52, List.forall_mem_cons.mpr ⟨lw_p53, List.forall_mem_cons.mpr ⟨lw_p54, List.forall_mem_cons.mpr ⟨lw_p55, List.forall_mem_cons.mpr ⟨lw_p56, List.forall_mem_cons.mpr ⟨lw_p57, List.forall_mem_cons.mpr ⟨lw_p58, List.forall_mem_cons.mpr ⟨lw_p59, fun _ h => absurd h List.not_mem_nil⟩⟩⟩⟩⟩⟩⟩⟩⟩⟩⟩⟩
def lw_privs : List (MethodName × Nat) := lw_privs_1 ++ (lw_privs_2 ++ (lw_privs_3 ++ (lw_privs_4)))
def lw_tbl : List Cond := k2_sels lw_privs ++ tables_1
theorem lw_privs_ok : ∀ q ∈ lw_privs, lw_okq q := by
  show ∀ q ∈ lw_privs_1 ++ (lw_privs_2 ++ (lw_privs_3 ++ (lw_privs_4))), lw_okq q
  exact List.forall_mem_append.mpr ⟨lw_r1, List.forall_mem_append.mpr ⟨lw_r2, List.forall_mem_append.mpr ⟨lw_r3, lw_r4⟩⟩⟩
theorem vr_outer (c : ClassId) (N h0 : Nat) : ∀ i : Nat, Jvm.Free.Multi.outerC c N h0 i = arrV c N (fun j => va_rf (if j < i then some (h0 + 1 + j) else none))
  | 0 => by
    show ({ cls := c, slots := Array.replicate N .null, vm := .none } : Cell) = _
    rw [arrV_new]
    refine congrArg (arrV c N) (funext fun j => ?_)
    simp [va_rf]
  | i + 1 => by
    show (Jvm.Free.Multi.outerC c N h0 i).setSlot i (.ref (h0 + 1 + i)) = _
    rw [vr_outer c N h0 i, arrV_store]
    refine congrArg (arrV c N) (funext fun j => ?_)
    by_cases e : j = i
    · subst e
      simp [updV, va_rf]
    · by_cases h : j < i
      · simp [updV, e, h, Nat.lt_succ_of_lt h]
      · simp [updV, e, h, show ¬ j < i + 1 by omega]
def RX0 : String := "ChairCabinet$Deeds"
def TX0 : u_T := fun k => match k with
  | 0 => ("ChairCabinet$Deeds", "codes", "[I", true)
  | _ => ("ChairCabinet$Deeds", "count", "I", false)
def tyX0 : Nat → FieldType := fun k => match k with
  | 0 => .array .int
  | _ => .int
abbrev wsX00 : List Cond := u_ws RX0 TX0 2
theorem nmX0 : ∀ a, a < 2 → ∀ b, b < 2 → a ≠ b → (TX0 a).2.1 ≠ (TX0 b).2.1 := by decide +kernel
theorem tyX0_ok : ∀ k, k < 2 → parseFieldDescriptor (TX0 k).2.2.1 = some (tyX0 k) := by decide +kernel
def RX1 : String := "ChairCabinet$Manner"
def TX1 : u_T := fun k => match k with
  | _ => ("", "", "", false)
def tyX1 : Nat → FieldType := fun k => match k with
  | _ => .int
abbrev wsX10 : List Cond := u_ws RX1 TX1 0
theorem nmX1 : ∀ a, a < 0 → ∀ b, b < 0 → a ≠ b → (TX1 a).2.1 ≠ (TX1 b).2.1 := by decide +kernel
theorem tyX1_ok : ∀ k, k < 0 → parseFieldDescriptor (TX1 k).2.2.1 = some (tyX1 k) := by decide +kernel
def RX2 : String := "ChairCabinet$Ministers"
def TX2 : u_T := fun k => match k with
  | 0 => ("ChairCabinet$Ministers", "kinds", "[I", true)
  | 1 => ("ChairCabinet$Ministers", "paces", "[I", true)
  | 2 => ("ChairCabinet$Ministers", "cunnings", "[I", true)
  | 3 => ("ChairCabinet$Ministers", "order", "[I", true)
  | _ => ("ChairCabinet$Ministers", "count", "I", false)
def tyX2 : Nat → FieldType := fun k => match k with
  | 0 => .array .int
  | 1 => .array .int
  | 2 => .array .int
  | 3 => .array .int
  | _ => .int
abbrev wsX20 : List Cond := u_ws RX2 TX2 5
theorem nmX2 : ∀ a, a < 5 → ∀ b, b < 5 → a ≠ b → (TX2 a).2.1 ≠ (TX2 b).2.1 := by decide +kernel
theorem tyX2_ok : ∀ k, k < 5 → parseFieldDescriptor (TX2 k).2.2.1 = some (tyX2 k) := by decide +kernel
def RX3 : String := "ChairCabinet$Reader"
def TX3 : u_T := fun k => match k with
  | 0 => ("ChairCabinet$Reader", "ministers", "LChairCabinet$Ministers;", true)
  | 1 => ("ChairCabinet$Reader", "ring", "LChairCabinet$Ring;", true)
  | _ => ("ChairCabinet$Reader", "next", "I", false)
def tyX3 : Nat → FieldType := fun k => match k with
  | 0 => .object "ChairCabinet$Ministers"
  | 1 => .object "ChairCabinet$Ring"
  | _ => .int
abbrev wsX30 : List Cond := u_ws RX3 TX3 3
theorem nmX3 : ∀ a, a < 3 → ∀ b, b < 3 → a ≠ b → (TX3 a).2.1 ≠ (TX3 b).2.1 := by decide +kernel
theorem tyX3_ok : ∀ k, k < 3 → parseFieldDescriptor (TX3 k).2.2.1 = some (tyX3 k) := by decide +kernel
def RX4 : String := "ChairCabinet$Ring"
def TX4 : u_T := fun k => match k with
  | 0 => ("ChairCabinet$Ring", "places", "[I", true)
  | 1 => ("ChairCabinet$Ring", "in", "I", false)
  | 2 => ("ChairCabinet$Ring", "chairs", "I", false)
  | 3 => ("ChairCabinet$Ring", "taken", "I", false)
  | 4 => ("ChairCabinet$Ring", "bars", "I", false)
  | _ => ("ChairCabinet$Ring", "stops", "I", false)
def tyX4 : Nat → FieldType := fun k => match k with
  | 0 => .array .int
  | 1 => .int
  | 2 => .int
  | 3 => .int
  | 4 => .int
  | _ => .int
abbrev wsX40 : List Cond := u_ws RX4 TX4 6
theorem nmX4 : ∀ a, a < 6 → ∀ b, b < 6 → a ≠ b → (TX4 a).2.1 ≠ (TX4 b).2.1 := by decide +kernel
theorem tyX4_ok : ∀ k, k < 6 → parseFieldDescriptor (TX4 k).2.2.1 = some (tyX4 k) := by decide +kernel
def RX5 : String := "ChairCabinet$Shelf"
def TX5 : u_T := fun k => match k with
  | 0 => ("ChairCabinet$Shelf", "most", "I", true)
  | 1 => ("ChairCabinet$Shelf", "items", "[[I", true)
  | _ => ("ChairCabinet$Shelf", "sizes", "[I", true)
def tyX5 : Nat → FieldType := fun k => match k with
  | 0 => .int
  | 1 => .array (.array .int)
  | _ => .array .int
abbrev wsX50 : List Cond := u_ws RX5 TX5 3
theorem nmX5 : ∀ a, a < 3 → ∀ b, b < 3 → a ≠ b → (TX5 a).2.1 ≠ (TX5 b).2.1 := by decide +kernel
theorem tyX5_ok : ∀ k, k < 3 → parseFieldDescriptor (TX5 k).2.2.1 = some (tyX5 k) := by decide +kernel
def RX6 : String := "ChairCabinet"
def TX6 : u_T := fun k => match k with
  | 0 => ("ChairCabinet", "rows", "LChairCabinet$Shelf;", true)
  | 1 => ("ChairCabinet", "texts", "LChairCabinet$Shelf;", true)
  | 2 => ("ChairCabinet", "reader", "LChairCabinet$Reader;", true)
  | 3 => ("ChairCabinet", "ministers", "LChairCabinet$Ministers;", true)
  | 4 => ("ChairCabinet", "start", "LChairCabinet$Ring;", true)
  | 5 => ("ChairCabinet", "now", "LChairCabinet$Ring;", true)
  | 6 => ("ChairCabinet", "aside", "LChairCabinet$Ring;", true)
  | 7 => ("ChairCabinet", "deeds", "LChairCabinet$Deeds;", true)
  | 8 => ("ChairCabinet", "kept", "[LChairCabinet$Deeds;", true)
  | 9 => ("ChairCabinet", "findingCounts", "[I", true)
  | 10 => ("ChairCabinet", "latestFinding", "I", false)
  | 11 => ("ChairCabinet", "told", "I", false)
  | 12 => ("ChairCabinet", "toldUpper", "J", false)
  | _ => ("ChairCabinet", "toldLower", "J", false)
def tyX6 : Nat → FieldType := fun k => match k with
  | 0 => .object "ChairCabinet$Shelf"
  | 1 => .object "ChairCabinet$Shelf"
  | 2 => .object "ChairCabinet$Reader"
  | 3 => .object "ChairCabinet$Ministers"
  | 4 => .object "ChairCabinet$Ring"
  | 5 => .object "ChairCabinet$Ring"
  | 6 => .object "ChairCabinet$Ring"
  | 7 => .object "ChairCabinet$Deeds"
  | 8 => .array (.object "ChairCabinet$Deeds")
  | 9 => .array .int
  | 10 => .int
  | 11 => .int
  | 12 => .long
  | _ => .long
abbrev wsX60 : List Cond := u_ws RX6 TX6 14
theorem nmX6 : ∀ a, a < 14 → ∀ b, b < 14 → a ≠ b → (TX6 a).2.1 ≠ (TX6 b).2.1 := by decide +kernel
theorem tyX6_ok : ∀ k, k < 14 → parseFieldDescriptor (TX6 k).2.2.1 = some (tyX6 k) := by decide +kernel
def RX7 : String := "ChairCabinetModel"
def TX7 : u_T := fun k => match k with
  | 0 => ("ChairCabinetModel", "rowSizes", "[I", true)
  | 1 => ("ChairCabinetModel", "rows", "[I", true)
  | 2 => ("ChairCabinetModel", "textSizes", "[I", true)
  | 3 => ("ChairCabinetModel", "texts", "[I", true)
  | 4 => ("ChairCabinetModel", "ministers", "I", false)
  | 5 => ("ChairCabinetModel", "kinds", "[I", true)
  | 6 => ("ChairCabinetModel", "paces", "[I", true)
  | 7 => ("ChairCabinetModel", "cunning", "[I", true)
  | 8 => ("ChairCabinetModel", "now", "[I", true)
  | 9 => ("ChairCabinetModel", "aside", "[I", true)
  | 10 => ("ChairCabinetModel", "deeds", "I", false)
  | 11 => ("ChairCabinetModel", "before", "[I", true)
  | 12 => ("ChairCabinetModel", "keeps", "[I", true)
  | 13 => ("ChairCabinetModel", "kept", "[Z", true)
  | 14 => ("ChairCabinetModel", "asked", "I", false)
  | 15 => ("ChairCabinetModel", "upper", "J", false)
  | 16 => ("ChairCabinetModel", "lower", "J", false)
  | 17 => ("ChairCabinetModel", "finding", "I", false)
  | 18 => ("ChairCabinetModel", "findings", "[I", true)
  | 19 => ("ChairCabinetModel", "here", "I", false)
  | 20 => ("ChairCabinetModel", "readChairs", "I", false)
  | 21 => ("ChairCabinetModel", "readMinisters", "I", false)
  | 22 => ("ChairCabinetModel", "readMinister", "[I", true)
  | 23 => ("ChairCabinetModel", "rounds", "[I", true)
  | 24 => ("ChairCabinetModel", "best", "[I", true)
  | _ => ("ChairCabinetModel", "worth", "[I", true)
def tyX7 : Nat → FieldType := fun k => match k with
  | 0 => .array .int
  | 1 => .array .int
  | 2 => .array .int
  | 3 => .array .int
  | 4 => .int
  | 5 => .array .int
  | 6 => .array .int
  | 7 => .array .int
  | 8 => .array .int
  | 9 => .array .int
  | 10 => .int
  | 11 => .array .int
  | 12 => .array .int
  | 13 => .array .boolean
  | 14 => .int
  | 15 => .long
  | 16 => .long
  | 17 => .int
  | 18 => .array .int
  | 19 => .int
  | 20 => .int
  | 21 => .int
  | 22 => .array .int
  | 23 => .array .int
  | 24 => .array .int
  | _ => .array .int
abbrev wsX70 : List Cond := u_ws RX7 TX7 26
theorem nmX7 : ∀ a, a < 26 → ∀ b, b < 26 → a ≠ b → (TX7 a).2.1 ≠ (TX7 b).2.1 := by decide +kernel
theorem tyX7_ok : ∀ k, k < 26 → parseFieldDescriptor (TX7 k).2.2.1 = some (tyX7 k) := by decide +kernel
abbrev vwCl : List vw_C := [(RX0, TX0, 2), (RX2, TX2, 5), (RX3, TX3, 3), (RX4, TX4, 6), (RX5, TX5, 3), (RX6, TX6, 14), (RX7, TX7, 26)]
theorem ax_idx {ws : List Cond} (ps : List Nat) (hp : ws = ps.filterMap (fun i => lw_tbl[i]?)) (hg : ws.all goodWord = true) : ∀ w ∈ ws, w ∈ lw_tbl.filter goodWord := by
  intro w hw
  refine List.mem_filter.mpr ⟨?_, List.all_eq_true.mp hg w hw⟩
  rw [hp] at hw
  obtain ⟨i, -, hi⟩ := List.mem_filterMap.mp hw
  exact List.mem_of_getElem? hi
theorem ax_cw0 : ∀ w ∈ u_ws RX0 TX0 2, w ∈ lw_tbl.filter goodWord := ax_idx [202, 204] (by decide +kernel) (by decide +kernel)
theorem ax_cw2 : ∀ w ∈ u_ws RX2 TX2 5, w ∈ lw_tbl.filter goodWord := ax_idx [131, 133, 135, 137, 139] (by decide +kernel) (by decide +kernel)
theorem ax_cw3 : ∀ w ∈ u_ws RX3 TX3 3, w ∈ lw_tbl.filter goodWord := ax_idx [181, 183, 185] (by decide +kernel) (by decide +kernel)
theorem ax_cw4 : ∀ w ∈ u_ws RX4 TX4 6, w ∈ lw_tbl.filter goodWord := ax_idx [163, 165, 167, 169, 171, 173] (by decide +kernel) (by decide +kernel)
theorem ax_cw5 : ∀ w ∈ u_ws RX5 TX5 3, w ∈ lw_tbl.filter goodWord := ax_idx [97, 99, 101] (by decide +kernel) (by decide +kernel)
theorem ax_cw6 : ∀ w ∈ u_ws RX6 TX6 14, w ∈ lw_tbl.filter goodWord := ax_idx [222, 224, 226, 228, 230, 232, 234, 236, 238, 240, 242, 244, 246, 248] (by decide +kernel) (by decide +kernel)
theorem ax_cw7 : ∀ w ∈ u_ws RX7 TX7 26, w ∈ lw_tbl.filter goodWord := ax_idx [734, 736, 738, 740, 742, 744, 746, 748, 750, 752, 754, 756, 758, 760, 762, 764, 766, 768, 770, 772, 774, 776, 778, 780, 782, 784] (by decide +kernel) (by decide +kernel)
theorem ax_cwin : ∀ q ∈ vwCl, ∀ w ∈ u_ws q.1 q.2.1 q.2.2, w ∈ lw_tbl.filter goodWord := List.forall_mem_cons.mpr ⟨ax_cw0, List.forall_mem_cons.mpr ⟨ax_cw2, List.forall_mem_cons.mpr ⟨ax_cw3, List.forall_mem_cons.mpr ⟨ax_cw4, List.forall_mem_cons.mpr ⟨ax_cw5, List.forall_mem_cons.mpr ⟨ax_cw6, List.forall_mem_cons.mpr ⟨ax_cw7, fun _ h => absurd h List.not_mem_nil⟩⟩⟩⟩⟩⟩⟩
theorem ax_cnm : ∀ q ∈ vwCl, ∀ a, a < q.2.2 → ∀ b, b < q.2.2 → a ≠ b → (q.2.1 a).2.1 ≠ (q.2.1 b).2.1 := List.forall_mem_cons.mpr ⟨nmX0, List.forall_mem_cons.mpr ⟨nmX2, List.forall_mem_cons.mpr ⟨nmX3, List.forall_mem_cons.mpr ⟨nmX4, List.forall_mem_cons.mpr ⟨nmX5, List.forall_mem_cons.mpr ⟨nmX6, List.forall_mem_cons.mpr ⟨nmX7, fun _ h => absurd h List.not_mem_nil⟩⟩⟩⟩⟩⟩⟩
theorem ax_cty : ∀ q ∈ vwCl, ∃ ty : Nat → FieldType, ∀ k, k < q.2.2 → parseFieldDescriptor (q.2.1 k).2.2.1 = some (ty k) := List.forall_mem_cons.mpr ⟨⟨tyX0, tyX0_ok⟩, List.forall_mem_cons.mpr ⟨⟨tyX2, tyX2_ok⟩, List.forall_mem_cons.mpr ⟨⟨tyX3, tyX3_ok⟩, List.forall_mem_cons.mpr ⟨⟨tyX4, tyX4_ok⟩, List.forall_mem_cons.mpr ⟨⟨tyX5, tyX5_ok⟩, List.forall_mem_cons.mpr ⟨⟨tyX6, tyX6_ok⟩, List.forall_mem_cons.mpr ⟨⟨tyX7, tyX7_ok⟩, fun _ h => absurd h List.not_mem_nil⟩⟩⟩⟩⟩⟩⟩
