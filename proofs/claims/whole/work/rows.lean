section
-- ===== PART A: goes FIRST, ahead of the names: the tables' words, and 'selects' of the private methods out of them =====
/-- a private method of a class that the tables say can be made, by its rows of tables_1 -/
def lw_okq (q : MethodName × Nat) : Prop := (q.1.cls ≠ "java/lang/invoke/MethodHandle" ∧ q.1.cls ≠ "java/lang/invoke/VarHandle") ∧ Cond.instantiable q.1.cls q.2 ∈ tables_1 ∧ Cond.privateMethod q.1 ∈ tables_1 ∧ Cond.instanceMethod q.1 ∈ tables_1
theorem lw_p0 : lw_okq (⟨"TapeEnds", "recorded", "(I)I"⟩, 8) := ⟨⟨by decide +kernel, by decide +kernel⟩, List.mem_of_getElem? (i := 9) (by decide +kernel), List.mem_of_getElem? (i := 158) (by decide +kernel), List.mem_of_getElem? (i := 159) (by decide +kernel)⟩
theorem lw_p1 : lw_okq (⟨"TapeEnds", "dropOldest", "()V"⟩, 8) := ⟨⟨by decide +kernel, by decide +kernel⟩, List.mem_of_getElem? (i := 9) (by decide +kernel), List.mem_of_getElem? (i := 162) (by decide +kernel), List.mem_of_getElem? (i := 163) (by decide +kernel)⟩
theorem lw_p2 : lw_okq (⟨"TapeEnds$Tape", "gap", "()I"⟩, 13) := ⟨⟨by decide +kernel, by decide +kernel⟩, List.mem_of_getElem? (i := 17) (by decide +kernel), List.mem_of_getElem? (i := 174) (by decide +kernel), List.mem_of_getElem? (i := 175) (by decide +kernel)⟩
theorem lw_p3 : lw_okq (⟨"TapeEnds$Tape", "feetOfFirst", "(II)I"⟩, 13) := ⟨⟨by decide +kernel, by decide +kernel⟩, List.mem_of_getElem? (i := 17) (by decide +kernel), List.mem_of_getElem? (i := 178) (by decide +kernel), List.mem_of_getElem? (i := 179) (by decide +kernel)⟩
theorem lw_p4 : lw_okq (⟨"TapeEnds$Tape", "rowOf", "(II)I"⟩, 13) := ⟨⟨by decide +kernel, by decide +kernel⟩, List.mem_of_getElem? (i := 17) (by decide +kernel), List.mem_of_getElem? (i := 182) (by decide +kernel), List.mem_of_getElem? (i := 183) (by decide +kernel)⟩
theorem lw_p5 : lw_okq (⟨"TapeEnds$Tape", "wholeLength", "(I)I"⟩, 13) := ⟨⟨by decide +kernel, by decide +kernel⟩, List.mem_of_getElem? (i := 17) (by decide +kernel), List.mem_of_getElem? (i := 186) (by decide +kernel), List.mem_of_getElem? (i := 187) (by decide +kernel)⟩
theorem lw_p6 : lw_okq (⟨"TapeEnds$Tape", "isFile", "(I)Z"⟩, 13) := ⟨⟨by decide +kernel, by decide +kernel⟩, List.mem_of_getElem? (i := 17) (by decide +kernel), List.mem_of_getElem? (i := 198) (by decide +kernel), List.mem_of_getElem? (i := 199) (by decide +kernel)⟩
theorem lw_p7 : lw_okq (⟨"TapeEnds$Tape", "endInGap", "(I)I"⟩, 13) := ⟨⟨by decide +kernel, by decide +kernel⟩, List.mem_of_getElem? (i := 17) (by decide +kernel), List.mem_of_getElem? (i := 202) (by decide +kernel), List.mem_of_getElem? (i := 203) (by decide +kernel)⟩
theorem lw_p8 : lw_okq (⟨"TapeEnds$Tape", "travelTo", "(I)I"⟩, 13) := ⟨⟨by decide +kernel, by decide +kernel⟩, List.mem_of_getElem? (i := 17) (by decide +kernel), List.mem_of_getElem? (i := 206) (by decide +kernel), List.mem_of_getElem? (i := 207) (by decide +kernel)⟩
theorem lw_p9 : lw_okq (⟨"TapeEnds$Tape", "isBlock", "(II)Z"⟩, 13) := ⟨⟨by decide +kernel, by decide +kernel⟩, List.mem_of_getElem? (i := 17) (by decide +kernel), List.mem_of_getElem? (i := 246) (by decide +kernel), List.mem_of_getElem? (i := 247) (by decide +kernel)⟩
theorem lw_p10 : lw_okq (⟨"TapeEnds$Tape", "startOfReading", "(III)I"⟩, 13) := ⟨⟨by decide +kernel, by decide +kernel⟩, List.mem_of_getElem? (i := 17) (by decide +kernel), List.mem_of_getElem? (i := 250) (by decide +kernel), List.mem_of_getElem? (i := 251) (by decide +kernel)⟩
theorem lw_p11 : lw_okq (⟨"TapeEnds$Tape", "lowerEnd", "(II)I"⟩, 13) := ⟨⟨by decide +kernel, by decide +kernel⟩, List.mem_of_getElem? (i := 17) (by decide +kernel), List.mem_of_getElem? (i := 254) (by decide +kernel), List.mem_of_getElem? (i := 255) (by decide +kernel)⟩
theorem lw_p12 : lw_okq (⟨"TapeEnds$Tape", "rowWithData", "(II)I"⟩, 13) := ⟨⟨by decide +kernel, by decide +kernel⟩, List.mem_of_getElem? (i := 17) (by decide +kernel), List.mem_of_getElem? (i := 266) (by decide +kernel), List.mem_of_getElem? (i := 267) (by decide +kernel)⟩
theorem lw_p13 : lw_okq (⟨"TapeEnds$Tape", "isInGap", "(II)Z"⟩, 13) := ⟨⟨by decide +kernel, by decide +kernel⟩, List.mem_of_getElem? (i := 17) (by decide +kernel), List.mem_of_getElem? (i := 270) (by decide +kernel), List.mem_of_getElem? (i := 271) (by decide +kernel)⟩
theorem lw_p14 : lw_okq (⟨"TapeEnds$Tape", "totalOf", "([II)I"⟩, 13) := ⟨⟨by decide +kernel, by decide +kernel⟩, List.mem_of_getElem? (i := 17) (by decide +kernel), List.mem_of_getElem? (i := 285) (by decide +kernel), List.mem_of_getElem? (i := 286) (by decide +kernel)⟩
theorem lw_p15 : lw_okq (⟨"TapeEnds$Tape", "travelToRead", "(III)I"⟩, 13) := ⟨⟨by decide +kernel, by decide +kernel⟩, List.mem_of_getElem? (i := 17) (by decide +kernel), List.mem_of_getElem? (i := 297) (by decide +kernel), List.mem_of_getElem? (i := 298) (by decide +kernel)⟩
def lw_privs_1 : List (MethodName × Nat) := [(⟨"TapeEnds", "recorded", "(I)I"⟩, 8), (⟨"TapeEnds", "dropOldest", "()V"⟩, 8), (⟨"TapeEnds$Tape", "gap", "()I"⟩, 13), (⟨"TapeEnds$Tape", "feetOfFirst", "(II)I"⟩, 13), (⟨"TapeEnds$Tape", "rowOf", "(II)I"⟩, 13), (⟨"TapeEnds$Tape", "wholeLength", "(I)I"⟩, 13), (⟨"TapeEnds$Tape", "isFile", "(I)Z"⟩, 13), (⟨"TapeEnds$Tape", "endInGap", "(I)I"⟩, 13), (⟨"TapeEnds$Tape", "travelTo", "(I)I"⟩, 13), (⟨"TapeEnds$Tape", "isBlock", "(II)Z"⟩, 13), (⟨"TapeEnds$Tape", "startOfReading", "(III)I"⟩, 13), (⟨"TapeEnds$Tape", "lowerEnd", "(II)I"⟩, 13), (⟨"TapeEnds$Tape", "rowWithData", "(II)I"⟩, 13), (⟨"TapeEnds$Tape", "isInGap", "(II)Z"⟩, 13), (⟨"TapeEnds$Tape", "totalOf", "([II)I"⟩, 13), (⟨"TapeEnds$Tape", "travelToRead", "(III)I"⟩, 13)]
theorem lw_r1 : ∀ q ∈ lw_privs_1, lw_okq q := List.forall_mem_cons.mpr ⟨lw_p0, List.forall_mem_cons.mpr ⟨lw_p1, List.forall_mem_cons.mpr ⟨lw_p2, List.forall_mem_cons.mpr ⟨lw_p3, List.forall_mem_cons.mpr ⟨lw_p4, List.forall_mem_cons.mpr ⟨lw_p5, List.forall_mem_cons.mpr ⟨lw_p6, List.forall_mem_cons.mpr ⟨lw_p7, List.forall_mem_cons.mpr ⟨lw_p8, List.forall_mem_cons.mpr ⟨lw_p9, List.forall_mem_cons.mpr ⟨lw_p10, List.forall_mem_cons.mpr ⟨lw_p11, List.forall_mem_cons.mpr ⟨lw_p12, List.forall_mem_cons.mpr ⟨lw_p13, List.forall_mem_cons.mpr ⟨lw_p14, List.forall_mem_cons.mpr ⟨lw_p15, fun _ h => absurd h List.not_mem_nil⟩⟩⟩⟩⟩⟩⟩⟩⟩⟩⟩⟩⟩⟩⟩⟩
theorem lw_p16 : lw_okq (⟨"TapeEnds$Pad", "charactersIn", "(J)I"⟩, 2) := ⟨⟨by decide +kernel, by decide +kernel⟩, List.mem_of_getElem? (i := 65) (by decide +kernel), List.mem_of_getElem? (i := 353) (by decide +kernel), List.mem_of_getElem? (i := 354) (by decide +kernel)⟩
theorem lw_p17 : lw_okq (⟨"TapeEnds$OrderReader", "pass", "(C)V"⟩, 8) := ⟨⟨by decide +kernel, by decide +kernel⟩, List.mem_of_getElem? (i := 80) (by decide +kernel), List.mem_of_getElem? (i := 384) (by decide +kernel), List.mem_of_getElem? (i := 385) (by decide +kernel)⟩
theorem lw_p18 : lw_okq (⟨"TapeEnds$OrderReader", "passIfThere", "(C)Z"⟩, 8) := ⟨⟨by decide +kernel, by decide +kernel⟩, List.mem_of_getElem? (i := 80) (by decide +kernel), List.mem_of_getElem? (i := 388) (by decide +kernel), List.mem_of_getElem? (i := 389) (by decide +kernel)⟩
theorem lw_p19 : lw_okq (⟨"TapeEnds$OrderReader", "readOrder", "()V"⟩, 8) := ⟨⟨by decide +kernel, by decide +kernel⟩, List.mem_of_getElem? (i := 80) (by decide +kernel), List.mem_of_getElem? (i := 396) (by decide +kernel), List.mem_of_getElem? (i := 397) (by decide +kernel)⟩
theorem lw_p20 : lw_okq (⟨"TapeEnds$OrderReader", "readFile", "(C)V"⟩, 8) := ⟨⟨by decide +kernel, by decide +kernel⟩, List.mem_of_getElem? (i := 80) (by decide +kernel), List.mem_of_getElem? (i := 400) (by decide +kernel), List.mem_of_getElem? (i := 401) (by decide +kernel)⟩
theorem lw_p21 : lw_okq (⟨"TapeEnds$OrderReader", "readNumber", "()I"⟩, 8) := ⟨⟨by decide +kernel, by decide +kernel⟩, List.mem_of_getElem? (i := 80) (by decide +kernel), List.mem_of_getElem? (i := 404) (by decide +kernel), List.mem_of_getElem? (i := 405) (by decide +kernel)⟩
theorem lw_p22 : lw_okq (⟨"TapeEnds$OrderReader", "isDigitNext", "()Z"⟩, 8) := ⟨⟨by decide +kernel, by decide +kernel⟩, List.mem_of_getElem? (i := 80) (by decide +kernel), List.mem_of_getElem? (i := 408) (by decide +kernel), List.mem_of_getElem? (i := 409) (by decide +kernel)⟩
theorem lw_p23 : lw_okq (⟨"TapeEnds", "carryOutOrders", "()I"⟩, 8) := ⟨⟨by decide +kernel, by decide +kernel⟩, List.mem_of_getElem? (i := 9) (by decide +kernel), List.mem_of_getElem? (i := 421) (by decide +kernel), List.mem_of_getElem? (i := 422) (by decide +kernel)⟩
theorem lw_p24 : lw_okq (⟨"TapeEndsModel", "know", "()V"⟩, 13) := ⟨⟨by decide +kernel, by decide +kernel⟩, List.mem_of_getElem? (i := 450) (by decide +kernel), List.mem_of_getElem? (i := 503) (by decide +kernel), List.mem_of_getElem? (i := 504) (by decide +kernel)⟩
theorem lw_p25 : lw_okq (⟨"TapeEndsModel", "gap", "()I"⟩, 13) := ⟨⟨by decide +kernel, by decide +kernel⟩, List.mem_of_getElem? (i := 450) (by decide +kernel), List.mem_of_getElem? (i := 511) (by decide +kernel), List.mem_of_getElem? (i := 512) (by decide +kernel)⟩
theorem lw_p26 : lw_okq (⟨"TapeEndsModel", "end", "(I)I"⟩, 13) := ⟨⟨by decide +kernel, by decide +kernel⟩, List.mem_of_getElem? (i := 450) (by decide +kernel), List.mem_of_getElem? (i := 515) (by decide +kernel), List.mem_of_getElem? (i := 516) (by decide +kernel)⟩
theorem lw_p27 : lw_okq (⟨"TapeEndsModel", "allFeet", "(I)I"⟩, 13) := ⟨⟨by decide +kernel, by decide +kernel⟩, List.mem_of_getElem? (i := 450) (by decide +kernel), List.mem_of_getElem? (i := 519) (by decide +kernel), List.mem_of_getElem? (i := 520) (by decide +kernel)⟩
theorem lw_p28 : lw_okq (⟨"TapeEndsModel", "feet", "(II)I"⟩, 13) := ⟨⟨by decide +kernel, by decide +kernel⟩, List.mem_of_getElem? (i := 450) (by decide +kernel), List.mem_of_getElem? (i := 523) (by decide +kernel), List.mem_of_getElem? (i := 524) (by decide +kernel)⟩
theorem lw_p29 : lw_okq (⟨"TapeEndsModel", "whole", "(II)I"⟩, 13) := ⟨⟨by decide +kernel, by decide +kernel⟩, List.mem_of_getElem? (i := 450) (by decide +kernel), List.mem_of_getElem? (i := 527) (by decide +kernel), List.mem_of_getElem? (i := 528) (by decide +kernel)⟩
theorem lw_p30 : lw_okq (⟨"TapeEndsModel", "writeFault", "(III)I"⟩, 13) := ⟨⟨by decide +kernel, by decide +kernel⟩, List.mem_of_getElem? (i := 450) (by decide +kernel), List.mem_of_getElem? (i := 538) (by decide +kernel), List.mem_of_getElem? (i := 539) (by decide +kernel)⟩
theorem lw_p31 : lw_okq (⟨"TapeEndsModel", "writes", "(III)I"⟩, 13) := ⟨⟨by decide +kernel, by decide +kernel⟩, List.mem_of_getElem? (i := 450) (by decide +kernel), List.mem_of_getElem? (i := 545) (by decide +kernel), List.mem_of_getElem? (i := 546) (by decide +kernel)⟩
def lw_privs_2 : List (MethodName × Nat) := [(⟨"TapeEnds$Pad", "charactersIn", "(J)I"⟩, 2), (⟨"TapeEnds$OrderReader", "pass", "(C)V"⟩, 8), (⟨"TapeEnds$OrderReader", "passIfThere", "(C)Z"⟩, 8), (⟨"TapeEnds$OrderReader", "readOrder", "()V"⟩, 8), (⟨"TapeEnds$OrderReader", "readFile", "(C)V"⟩, 8), (⟨"TapeEnds$OrderReader", "readNumber", "()I"⟩, 8), (⟨"TapeEnds$OrderReader", "isDigitNext", "()Z"⟩, 8), (⟨"TapeEnds", "carryOutOrders", "()I"⟩, 8), (⟨"TapeEndsModel", "know", "()V"⟩, 13), (⟨"TapeEndsModel", "gap", "()I"⟩, 13), (⟨"TapeEndsModel", "end", "(I)I"⟩, 13), (⟨"TapeEndsModel", "allFeet", "(I)I"⟩, 13), (⟨"TapeEndsModel", "feet", "(II)I"⟩, 13), (⟨"TapeEndsModel", "whole", "(II)I"⟩, 13), (⟨"TapeEndsModel", "writeFault", "(III)I"⟩, 13), (⟨"TapeEndsModel", "writes", "(III)I"⟩, 13)]
theorem lw_r2 : ∀ q ∈ lw_privs_2, lw_okq q := List.forall_mem_cons.mpr ⟨lw_p16, List.forall_mem_cons.mpr ⟨lw_p17, List.forall_mem_cons.mpr ⟨lw_p18, List.forall_mem_cons.mpr ⟨lw_p19, List.forall_mem_cons.mpr ⟨lw_p20, List.forall_mem_cons.mpr ⟨lw_p21, List.forall_mem_cons.mpr ⟨lw_p22, List.forall_mem_cons.mpr ⟨lw_p23, List.forall_mem_cons.mpr ⟨lw_p24, List.forall_mem_cons.mpr ⟨lw_p25, List.forall_mem_cons.mpr ⟨lw_p26, List.forall_mem_cons.mpr ⟨lw_p27, List.forall_mem_cons.mpr ⟨lw_p28, List.forall_mem_cons.mpr ⟨lw_p29, List.forall_mem_cons.mpr ⟨lw_p30, List.forall_mem_cons.mpr ⟨lw_p31, fun _ h => absurd h List.not_mem_nil⟩⟩⟩⟩⟩⟩⟩⟩⟩⟩⟩⟩⟩⟩⟩⟩
theorem lw_p32 : lw_okq (⟨"TapeEndsModel", "travel", "(I)V"⟩, 13) := ⟨⟨by decide +kernel, by decide +kernel⟩, List.mem_of_getElem? (i := 450) (by decide +kernel), List.mem_of_getElem? (i := 549) (by decide +kernel), List.mem_of_getElem? (i := 550) (by decide +kernel)⟩
theorem lw_p33 : lw_okq (⟨"TapeEndsModel", "cutFault", "(II)I"⟩, 13) := ⟨⟨by decide +kernel, by decide +kernel⟩, List.mem_of_getElem? (i := 450) (by decide +kernel), List.mem_of_getElem? (i := 561) (by decide +kernel), List.mem_of_getElem? (i := 562) (by decide +kernel)⟩
theorem lw_p34 : lw_okq (⟨"TapeEndsModel", "cuts", "(II)I"⟩, 13) := ⟨⟨by decide +kernel, by decide +kernel⟩, List.mem_of_getElem? (i := 450) (by decide +kernel), List.mem_of_getElem? (i := 565) (by decide +kernel), List.mem_of_getElem? (i := 566) (by decide +kernel)⟩
theorem lw_p35 : lw_okq (⟨"TapeEndsModel", "moves", "(I)I"⟩, 13) := ⟨⟨by decide +kernel, by decide +kernel⟩, List.mem_of_getElem? (i := 450) (by decide +kernel), List.mem_of_getElem? (i := 573) (by decide +kernel), List.mem_of_getElem? (i := 574) (by decide +kernel)⟩
theorem lw_p36 : lw_okq (⟨"TapeEndsModel", "rewinds", "()I"⟩, 13) := ⟨⟨by decide +kernel, by decide +kernel⟩, List.mem_of_getElem? (i := 450) (by decide +kernel), List.mem_of_getElem? (i := 581) (by decide +kernel), List.mem_of_getElem? (i := 582) (by decide +kernel)⟩
theorem lw_p37 : lw_okq (⟨"TapeEndsModel", "readFault", "(III)I"⟩, 13) := ⟨⟨by decide +kernel, by decide +kernel⟩, List.mem_of_getElem? (i := 450) (by decide +kernel), List.mem_of_getElem? (i := 589) (by decide +kernel), List.mem_of_getElem? (i := 590) (by decide +kernel)⟩
theorem lw_p38 : lw_okq (⟨"TapeEndsModel", "isBlock", "(II)Z"⟩, 13) := ⟨⟨by decide +kernel, by decide +kernel⟩, List.mem_of_getElem? (i := 450) (by decide +kernel), List.mem_of_getElem? (i := 593) (by decide +kernel), List.mem_of_getElem? (i := 594) (by decide +kernel)⟩
theorem lw_p39 : lw_okq (⟨"TapeEndsModel", "reads", "(III)I"⟩, 13) := ⟨⟨by decide +kernel, by decide +kernel⟩, List.mem_of_getElem? (i := 450) (by decide +kernel), List.mem_of_getElem? (i := 597) (by decide +kernel), List.mem_of_getElem? (i := 598) (by decide +kernel)⟩
theorem lw_p40 : lw_okq (⟨"TapeEndsModel", "endOf", "(IIIZ)I"⟩, 13) := ⟨⟨by decide +kernel, by decide +kernel⟩, List.mem_of_getElem? (i := 450) (by decide +kernel), List.mem_of_getElem? (i := 601) (by decide +kernel), List.mem_of_getElem? (i := 602) (by decide +kernel)⟩
theorem lw_p41 : lw_okq (⟨"TapeEndsModel", "lower", "(II)I"⟩, 13) := ⟨⟨by decide +kernel, by decide +kernel⟩, List.mem_of_getElem? (i := 450) (by decide +kernel), List.mem_of_getElem? (i := 605) (by decide +kernel), List.mem_of_getElem? (i := 606) (by decide +kernel)⟩
theorem lw_p42 : lw_okq (⟨"TapeEndsModel", "upper", "(II)I"⟩, 13) := ⟨⟨by decide +kernel, by decide +kernel⟩, List.mem_of_getElem? (i := 450) (by decide +kernel), List.mem_of_getElem? (i := 609) (by decide +kernel), List.mem_of_getElem? (i := 610) (by decide +kernel)⟩
theorem lw_p43 : lw_okq (⟨"TapeEndsModel", "within", "(II)I"⟩, 13) := ⟨⟨by decide +kernel, by decide +kernel⟩, List.mem_of_getElem? (i := 450) (by decide +kernel), List.mem_of_getElem? (i := 617) (by decide +kernel), List.mem_of_getElem? (i := 618) (by decide +kernel)⟩
theorem lw_p44 : lw_okq (⟨"TapeEndsModel", "sum", "(II)I"⟩, 13) := ⟨⟨by decide +kernel, by decide +kernel⟩, List.mem_of_getElem? (i := 450) (by decide +kernel), List.mem_of_getElem? (i := 625) (by decide +kernel), List.mem_of_getElem? (i := 626) (by decide +kernel)⟩
theorem lw_p45 : lw_okq (⟨"TapeEndsModel", "travelTo", "(III)I"⟩, 13) := ⟨⟨by decide +kernel, by decide +kernel⟩, List.mem_of_getElem? (i := 450) (by decide +kernel), List.mem_of_getElem? (i := 633) (by decide +kernel), List.mem_of_getElem? (i := 634) (by decide +kernel)⟩
theorem lw_p46 : lw_okq (⟨"TapeEndsModel", "go", "(Z)I"⟩, 13) := ⟨⟨by decide +kernel, by decide +kernel⟩, List.mem_of_getElem? (i := 450) (by decide +kernel), List.mem_of_getElem? (i := 670) (by decide +kernel), List.mem_of_getElem? (i := 671) (by decide +kernel)⟩
theorem lw_p47 : lw_okq (⟨"TapeEndsModel", "order", "()V"⟩, 13) := ⟨⟨by decide +kernel, by decide +kernel⟩, List.mem_of_getElem? (i := 450) (by decide +kernel), List.mem_of_getElem? (i := 674) (by decide +kernel), List.mem_of_getElem? (i := 675) (by decide +kernel)⟩
def lw_privs_3 : List (MethodName × Nat) := [(⟨"TapeEndsModel", "travel", "(I)V"⟩, 13), (⟨"TapeEndsModel", "cutFault", "(II)I"⟩, 13), (⟨"TapeEndsModel", "cuts", "(II)I"⟩, 13), (⟨"TapeEndsModel", "moves", "(I)I"⟩, 13), (⟨"TapeEndsModel", "rewinds", "()I"⟩, 13), (⟨"TapeEndsModel", "readFault", "(III)I"⟩, 13), (⟨"TapeEndsModel", "isBlock", "(II)Z"⟩, 13), (⟨"TapeEndsModel", "reads", "(III)I"⟩, 13), (⟨"TapeEndsModel", "endOf", "(IIIZ)I"⟩, 13), (⟨"TapeEndsModel", "lower", "(II)I"⟩, 13), (⟨"TapeEndsModel", "upper", "(II)I"⟩, 13), (⟨"TapeEndsModel", "within", "(II)I"⟩, 13), (⟨"TapeEndsModel", "sum", "(II)I"⟩, 13), (⟨"TapeEndsModel", "travelTo", "(III)I"⟩, 13), (⟨"TapeEndsModel", "go", "(Z)I"⟩, 13), (⟨"TapeEndsModel", "order", "()V"⟩, 13)]
theorem lw_r3 : ∀ q ∈ lw_privs_3, lw_okq q := List.forall_mem_cons.mpr ⟨lw_p32, List.forall_mem_cons.mpr ⟨lw_p33, List.forall_mem_cons.mpr ⟨lw_p34, List.forall_mem_cons.mpr ⟨lw_p35, List.forall_mem_cons.mpr ⟨lw_p36, List.forall_mem_cons.mpr ⟨lw_p37, List.forall_mem_cons.mpr ⟨lw_p38, List.forall_mem_cons.mpr ⟨lw_p39, List.forall_mem_cons.mpr ⟨lw_p40, List.forall_mem_cons.mpr ⟨lw_p41, List.forall_mem_cons.mpr ⟨lw_p42, List.forall_mem_cons.mpr ⟨lw_p43, List.forall_mem_cons.mpr ⟨lw_p44, List.forall_mem_cons.mpr ⟨lw_p45, List.forall_mem_cons.mpr ⟨lw_p46, List.forall_mem_cons.mpr ⟨lw_p47, fun _ h => absurd h List.not_mem_nil⟩⟩⟩⟩⟩⟩⟩⟩⟩⟩⟩⟩⟩⟩⟩⟩
theorem lw_p48 : lw_okq (⟨"TapeEndsModel", "sign", "(II)I"⟩, 13) := ⟨⟨by decide +kernel, by decide +kernel⟩, List.mem_of_getElem? (i := 450) (by decide +kernel), List.mem_of_getElem? (i := 678) (by decide +kernel), List.mem_of_getElem? (i := 679) (by decide +kernel)⟩
theorem lw_p49 : lw_okq (⟨"TapeEndsModel", "number", "()I"⟩, 13) := ⟨⟨by decide +kernel, by decide +kernel⟩, List.mem_of_getElem? (i := 450) (by decide +kernel), List.mem_of_getElem? (i := 682) (by decide +kernel), List.mem_of_getElem? (i := 683) (by decide +kernel)⟩
theorem lw_p50 : lw_okq (⟨"TapeEndsModel", "isNext", "(II)Z"⟩, 13) := ⟨⟨by decide +kernel, by decide +kernel⟩, List.mem_of_getElem? (i := 450) (by decide +kernel), List.mem_of_getElem? (i := 686) (by decide +kernel), List.mem_of_getElem? (i := 687) (by decide +kernel)⟩
theorem lw_p51 : lw_okq (⟨"TapeEndsModel", "does", "()Z"⟩, 13) := ⟨⟨by decide +kernel, by decide +kernel⟩, List.mem_of_getElem? (i := 450) (by decide +kernel), List.mem_of_getElem? (i := 690) (by decide +kernel), List.mem_of_getElem? (i := 691) (by decide +kernel)⟩
def lw_privs_4 : List (MethodName × Nat) := [(⟨"TapeEndsModel", "sign", "(II)I"⟩, 13), (⟨"TapeEndsModel", "number", "()I"⟩, 13), (⟨"TapeEndsModel", "isNext", "(II)Z"⟩, 13), (⟨"TapeEndsModel", "does", "()Z"⟩, 13)]
theorem lw_r4 : ∀ q ∈ lw_privs_4, lw_okq q := List.forall_mem_cons.mpr ⟨lw_p48, List.forall_mem_cons.mpr ⟨lw_p49, List.forall_mem_cons.mpr ⟨lw_p50, List.forall_mem_cons.mpr ⟨lw_p51, fun _ h => absurd h List.not_mem_nil⟩⟩⟩⟩
def lw_privs : List (MethodName × Nat) := lw_privs_1 ++ (lw_privs_2 ++ (lw_privs_3 ++ (lw_privs_4)))
def lw_tbl : List Cond := k2_sels lw_privs ++ tables_1
theorem lw_privs_ok : ∀ q ∈ lw_privs, lw_okq q := by
  show ∀ q ∈ lw_privs_1 ++ (lw_privs_2 ++ (lw_privs_3 ++ (lw_privs_4))), lw_okq q
  exact List.forall_mem_append.mpr ⟨lw_r1, List.forall_mem_append.mpr ⟨lw_r2, List.forall_mem_append.mpr ⟨lw_r3, lw_r4⟩⟩⟩
end
section
def R_E : String := "TapeEnds"
def F_E : u_T := fun k => match k with
  | 0 => ("TapeEnds", "past", "[LTapeEnds$Tape;", true)
  | 1 => ("TapeEnds", "slots", "[LTapeEnds$Tape;", true)
  | 2 => ("TapeEnds", "saved", "[Z", true)
  | 3 => ("TapeEnds", "pad", "LTapeEnds$Pad;", true)
  | 4 => ("TapeEnds", "reader", "LTapeEnds$OrderReader;", true)
  | 5 => ("TapeEnds", "tape", "LTapeEnds$Tape;", true)
  | 6 => ("TapeEnds", "before", "LTapeEnds$Tape;", false)
  | _ => ("TapeEnds", "pastCount", "I", false)
def ty_E : Nat → FieldType := fun k => match k with
  | 0 => .array (.object "TapeEnds$Tape")
  | 1 => .array (.object "TapeEnds$Tape")
  | 2 => .array .boolean
  | 3 => .object "TapeEnds$Pad"
  | 4 => .object "TapeEnds$OrderReader"
  | 5 => .object "TapeEnds$Tape"
  | 6 => .object "TapeEnds$Tape"
  | _ => .int
def R_T : String := "TapeEnds$Tape"
def F_T : u_T := fun k => match k with
  | 0 => ("TapeEnds$Tape", "feet", "I", false)
  | 1 => ("TapeEnds$Tape", "leastGap", "I", false)
  | 2 => ("TapeEnds$Tape", "mark", "I", false)
  | 3 => ("TapeEnds$Tape", "head", "I", false)
  | 4 => ("TapeEnds$Tape", "splices", "I", false)
  | 5 => ("TapeEnds$Tape", "feetTakenOut", "I", false)
  | 6 => ("TapeEnds$Tape", "travel", "I", false)
  | 7 => ("TapeEnds$Tape", "blocksRead", "I", false)
  | 8 => ("TapeEnds$Tape", "blocks", "[I", true)
  | 9 => ("TapeEnds$Tape", "data", "[I", true)
  | 10 => ("TapeEnds$Tape", "sums", "[I", true)
  | 11 => ("TapeEnds$Tape", "marks", "[I", true)
  | _ => ("TapeEnds$Tape", "timesRead", "[I", true)
def ty_T : Nat → FieldType := fun k => match k with
  | 0 => .int
  | 1 => .int
  | 2 => .int
  | 3 => .int
  | 4 => .int
  | 5 => .int
  | 6 => .int
  | 7 => .int
  | 8 => .array .int
  | 9 => .array .int
  | 10 => .array .int
  | 11 => .array .int
  | _ => .array .int
def R_P : String := "TapeEnds$Pad"
def F_P : u_T := fun k => match k with
  | 0 => ("TapeEnds$Pad", "text", "[C", true)
  | _ => ("TapeEnds$Pad", "size", "I", false)
def ty_P : Nat → FieldType := fun k => match k with
  | 0 => .array .char
  | _ => .int
def R_R : String := "TapeEnds$OrderReader"
def F_R : u_T := fun k => match k with
  | 0 => ("TapeEnds$OrderReader", "pad", "LTapeEnds$Pad;", true)
  | 1 => ("TapeEnds$OrderReader", "position", "I", false)
  | 2 => ("TapeEnds$OrderReader", "failed", "Z", false)
  | 3 => ("TapeEnds$OrderReader", "kind", "C", false)
  | 4 => ("TapeEnds$OrderReader", "file", "I", false)
  | 5 => ("TapeEnds$OrderReader", "number", "I", false)
  | 6 => ("TapeEnds$OrderReader", "sum", "I", false)
  | _ => ("TapeEnds$OrderReader", "backwards", "I", false)
def ty_R : Nat → FieldType := fun k => match k with
  | 0 => .object "TapeEnds$Pad"
  | 1 => .int
  | 2 => .boolean
  | 3 => .char
  | 4 => .int
  | 5 => .int
  | 6 => .int
  | _ => .int
def R_M : String := "TapeEndsModel"
def F_M : u_T := fun k => match k with
  | 0 => ("TapeEndsModel", "s", "[I", true)
  | 1 => ("TapeEndsModel", "before", "[I", true)
  | 2 => ("TapeEndsModel", "known", "I", false)
  | 3 => ("TapeEndsModel", "slots", "[I", true)
  | 4 => ("TapeEndsModel", "isSaved", "[Z", true)
  | 5 => ("TapeEndsModel", "pad", "[I", true)
  | 6 => ("TapeEndsModel", "padLength", "I", false)
  | 7 => ("TapeEndsModel", "place", "I", false)
  | 8 => ("TapeEndsModel", "isWrong", "Z", false)
  | 9 => ("TapeEndsModel", "letter", "I", false)
  | 10 => ("TapeEndsModel", "one", "I", false)
  | 11 => ("TapeEndsModel", "two", "I", false)
  | _ => ("TapeEndsModel", "three", "I", false)
def ty_M : Nat → FieldType := fun k => match k with
  | 0 => .array .int
  | 1 => .array .int
  | 2 => .int
  | 3 => .array .int
  | 4 => .array .boolean
  | 5 => .array .int
  | 6 => .int
  | 7 => .int
  | 8 => .boolean
  | 9 => .int
  | 10 => .int
  | 11 => .int
  | _ => .int
abbrev classes : List vw_C := [(R_E, F_E, 8), (R_T, F_T, 13), (R_P, F_P, 2), (R_R, F_R, 8), (R_M, F_M, 13)]
/-! The words that every contract leans on: those of the tables that stay true under every shift; one list for all methods. -/
def TB : List Cond := lw_tbl.filter goodWord
theorem tb_mem (i : Nat) {w : Cond} (h : lw_tbl[i]? = some w) (hg : goodWord w = true) : w ∈ TB := List.mem_filter.mpr ⟨List.mem_of_getElem? h, hg⟩
theorem tb_in {w : Cond} (h : w ∈ TB) : w ∈ lw_tbl := (List.mem_filter.mp h).1
theorem tb_ok {w : Cond} (h : w ∈ TB) : (w.onTables && w.keeps) = true ∨ ∃ ty, w = .arrayClass ty := good_of_word (List.mem_filter.mp h).2
abbrev wd (y : MethodName) (b : ByteArray) (n : Nat) (rt : Option FieldType) : List Cond := .code y b n rt :: TB
theorem wd_good {y : MethodName} {b : ByteArray} {n : Nat} {rt : Option FieldType} (h : Cond.code y b n rt ∈ TB) : GoodIn TB (wd y b n rt) := fun w hw => by
  rcases List.mem_cons.mp hw with rfl | hw
  · exact ⟨h, tb_ok h⟩
  · exact ⟨hw, tb_ok hw⟩
abbrev rm (fr lo mc ms : Nat) : Room := { frames := fr, cells := mc, slots := ms, locals := lo }
/-- the classes of the arrays: ints, booleans, chars, Tapes -/
abbrev tys (ca : Nat → ClassId) : List (ClassId × FieldType) := [(ca 0, .int), (ca 1, .boolean), (ca 2, .char), (ca 3, .object "TapeEnds$Tape")]
/-- the words of a call of an instance method -/
def CW (own : String) (idx : Nat) (y : MethodName) (b : ByteArray) (n : Nat) (rt : Option FieldType) (k : Nat) : Prop :=
  Cond.methodLink own idx y ∈ TB ∧ Cond.instanceMethod y ∈ TB ∧ Cond.selects y.cls y y ∈ TB ∧ Cond.initialized y.cls ∈ TB ∧ Cond.code y b n rt ∈ TB ∧
    y.cls ≠ "java/lang/invoke/MethodHandle" ∧ y.cls ≠ "java/lang/invoke/VarHandle" ∧ (parseMethodDescriptor y.desc).map (fun d => d.parameters.length) = some k
/-- the words of a call of a static method -/
def CS (own : String) (idx : Nat) (y : MethodName) (b : ByteArray) (n : Nat) (rt : Option FieldType) (k : Nat) : Prop :=
  y.cls = own ∧ Cond.methodLink own idx y ∈ TB ∧ Cond.static y ∈ TB ∧ Cond.initialized own ∈ TB ∧ Cond.code y b n rt ∈ TB ∧
    y.cls ≠ "java/lang/invoke/MethodHandle" ∧ y.cls ≠ "java/lang/invoke/VarHandle" ∧ (parseMethodDescriptor y.desc).map (fun d => d.parameters.length) = some k
/-- the words of a call of a constructor -/
def CI (own : String) (idx : Nat) (y : MethodName) (b : ByteArray) (n : Nat) (k : Nat) : Prop :=
  y.name = "<init>" ∧ Cond.methodLink own idx y ∈ TB ∧ Cond.instanceMethod y ∈ TB ∧ Cond.initialized y.cls ∈ TB ∧ Cond.code y b n none ∈ TB ∧
    y.cls ≠ "java/lang/invoke/MethodHandle" ∧ y.cls ≠ "java/lang/invoke/VarHandle" ∧ (parseMethodDescriptor y.desc).map (fun d => d.parameters.length) = some k
theorem CW.cw {R : Room} {s : State} {args : Array Value} {own : String} {idx : Nat} {y : MethodName} {b : ByteArray} {n : Nat} {rt : Option FieldType} {k fr lo mc ms : Nat} (hts : ∀ w ∈ TB, w.before args s = true) (h : CW own idx y b n rt k) (hR : fr + 1 ≤ R.frames ∧ 8 + (n + 11) + lo ≤ R.locals) :
    CallW R s args own y.cls idx y b n rt (wd y b n rt) (rm fr lo mc ms) mc ms k := by
  obtain ⟨h1, h2, h3, h4, h5, h6⟩ := h
  refine cwV k hts (fun w hw => ?_) rfl rfl rfl ⟨rfl, h6⟩ hR
  unfold wsV at hw
  rcases List.mem_append.mp hw with hw | hw
  · simp only [List.mem_cons, List.not_mem_nil, or_false] at hw
    rcases hw with rfl | rfl | rfl | rfl
    · exact ⟨h1, tb_ok h1⟩
    · exact ⟨h2, tb_ok h2⟩
    · exact ⟨h3, tb_ok h3⟩
    · exact ⟨h4, tb_ok h4⟩
  · exact wd_good h5 w hw
theorem CS.cw {R : Room} {s : State} {args : Array Value} {own : String} {idx : Nat} {y : MethodName} {b : ByteArray} {n : Nat} {rt : Option FieldType} {k fr lo mc ms : Nat} (hts : ∀ w ∈ TB, w.before args s = true) (h : CS own idx y b n rt k) (hR : fr + 1 ≤ R.frames ∧ 8 + (n + 11) + lo ≤ R.locals) :
    CallB R s args own idx y b n rt (wd y b n rt) (rm fr lo mc ms) mc ms k ∧ (Cond.static y).before args s = true := by
  obtain ⟨h0, h1, h2, h4, h5, h6⟩ := h
  refine cwS k hts (fun w hw => ?_) rfl rfl rfl ⟨h0, h6⟩ hR
  unfold wsS at hw
  rcases List.mem_append.mp hw with hw | hw
  · simp only [List.mem_cons, List.not_mem_nil, or_false] at hw
    rcases hw with rfl | rfl | rfl
    · exact ⟨h1, tb_ok h1⟩
    · exact ⟨h2, tb_ok h2⟩
    · exact ⟨h4, tb_ok h4⟩
  · exact wd_good h5 w hw
theorem CI.cw {R : Room} {s : State} {args : Array Value} {own : String} {idx : Nat} {y : MethodName} {b : ByteArray} {n : Nat} {k fr lo mc ms : Nat} (hts : ∀ w ∈ TB, w.before args s = true) (h : CI own idx y b n k) (hR : fr + 1 ≤ R.frames ∧ 8 + (n + 11) + lo ≤ R.locals) :
    CallB R s args own idx y b n none (wd y b n none) (rm fr lo mc ms) mc ms k ∧ y.name = "<init>" ∧ (Cond.instanceMethod y).before args s = true := by
  obtain ⟨h0, h1, h2, h4, h5, h6⟩ := h
  exact cwI k hts (wd_good h5) rfl rfl rfl (hts _ h4) (hts _ h1) (hts _ h2) h0 h6 hR
theorem fm_of {α : Type} {f : Nat → Option α} : ∀ {is : List Nat} {wc : List α}, is.map f = wc.map some → is.filterMap f = wc
  | [], [], _ => rfl
  | [], _ :: _, h => by cases h
  | _ :: _, [], h => by cases h
  | i :: is, w :: wc, h => by
    simp only [List.map_cons, List.cons.injEq] at h
    simp only [List.filterMap_cons, h.1, fm_of h.2]
/-! A method that writes nothing: its answer is E. -/
def RO (l : Launch) (y : MethodName) (b : ByteArray) (n : Nat) (rt : Option FieldType) (fr lo : Nat) (D : va_G) (ca : Nat → ClassId) (as : List Value) (ws : va_W) (E : Int32) : Prop :=
  Met l y (wd y b n rt) (rm fr lo 0 0) (va_Pc as (fun U => va_P D classes ws U.heap ∧ va_K D classes (tys ca) U)) (vp_Si (fun r => r = E)) 0 0 (fun _ => False)
/-- A method that may write the cells ws and no others, makes none: its answer is E, the cells are w' behind it. -/
def MI (l : Launch) (y : MethodName) (b : ByteArray) (n : Nat) (rt : Option FieldType) (fr lo : Nat) (D : va_G) (ca : Nat → ClassId) (as : List Value) (ws : va_W) (E : Int32) (w' : va_W) : Prop :=
  ∀ sz : Nat, Met l y (wd y b n rt) (rm fr lo 0 0) (va_Pc as (fun U => U.heap.size = sz ∧ va_P D classes ws U.heap ∧ va_K D classes (tys ca) U ∧ va_D (fun _ => True) ws)) (va_Qi (fun r (_ : Unit) => r = E) (fun _ t => va_P D classes w' t.heap ∧ va_D (va_A ws sz) w') (va_A ws sz)) 0 0 (va_A ws sz)
def MV (l : Launch) (y : MethodName) (b : ByteArray) (n : Nat) (fr lo : Nat) (D : va_G) (ca : Nat → ClassId) (as : List Value) (ws : va_W) (w' : va_W) : Prop :=
  ∀ sz : Nat, Met l y (wd y b n none) (rm fr lo 0 0) (va_Pc as (fun U => U.heap.size = sz ∧ va_P D classes ws U.heap ∧ va_K D classes (tys ca) U ∧ va_D (fun _ => True) ws)) (va_Qv (fun (_ : Unit) => True) (fun _ t => va_P D classes w' t.heap ∧ va_D (va_A ws sz) w') (va_A ws sz)) 0 0 (va_A ws sz)
theorem RO.mk {l : Launch} {y : MethodName} {b : ByteArray} {n : Nat} {rt : Option FieldType} {fr lo : Nat} {D : va_G} {ca : Nat → ClassId} {as : List Value} {ws : va_W} {E : Int32} {ty : FieldType} (hy : plainName y.cls = true) (hrt : rt = some ty) (hle : (lg_sl as).length ≤ n)
    (body : ∀ (p : Program) (e : Env) (s : State) (m : MethodId) (args : Array Value) (below : List Frame) (meth : Method) (c : Code) (Q : State → Prop), CallFix p m c b n s args TB y.cls → va_P D classes ws s.heap → va_K D classes (tys ca) s →
      (∀ (pc : Nat) (ls : Array Slot) (v : Int32), decode b pc = .ok (.ireturn, 1) → narrow ty (.int v) = .int v → v = E → W p l e (rm fr lo 0 0) s m args below meth c s.heap [] 0 0 Q (F0 m pc ls [.int v])) →
      ∀ ls : Array Slot, lv_has ls n (lv_args 0 as) → W p l e (rm fr lo 0 0) s m args below meth c s.heap [] 0 0 Q (F0 m 0 ls [])) : RO l y b n rt fr lo D ca as ws E := by
  refine Met.ofW (cc := b) (maxL := n) (ret := rt) hy rfl ?_
  intro p e s m args below meth c s₁ B hml hv
  obtain ⟨rfl, hP, hK⟩ := hv
  have hts := atoms_spec (ws := wd y b n rt) B.pre
  have hr := B.returns
  have hlocks := B.notSynchronized
  have hl := lv_entry as (n := n) hle
  rw [lg_entry_eq]
  generalize (lg_sl as ++ List.replicate (n - (lg_sl as).length) Slot.unset).toArray = ls at hl ⊢
  refine body p e s m _ below meth c _ ⟨B.exec, B.bytes, hml, findClass_of_methodNamed B.named, fun w hw => hts w (List.mem_cons_of_mem _ hw)⟩ hP hK ?_ ls hl
  intro pc ls v hd hn hv
  exact W.zret (ty := ty) B.exec B.bytes (by rw [hr, hrt]) hn (fun t ht _ => ⟨v, rfl, hv, ht⟩) (fun q hq => by cases hq) hd
theorem MI.mk {l : Launch} {y : MethodName} {b : ByteArray} {n : Nat} {rt : Option FieldType} {fr lo : Nat} {D : va_G} {ca : Nat → ClassId} {as : List Value} {ws w' : va_W} {E : Int32} {ty : FieldType} (hy : plainName y.cls = true) (hrt : rt = some ty) (hle : (lg_sl as).length ≤ n)
    (body : ∀ (p : Program) (e : Env) (s : State) (m : MethodId) (args : Array Value) (below : List Frame) (meth : Method) (c : Code) (Q : State → Prop) (A : Nat → Prop), CallFix p m c b n s args TB y.cls → (∀ q : Nat, s.heap.size ≤ q → A q) → va_P D classes ws s.heap → va_D A ws → va_K D classes (tys ca) s →
      (∀ (pc : Nat) (ls : Array Slot) (v : Int32) (H : Heap) (locs : List Loc) (w : va_W), decode b pc = .ok (.ireturn, 1) → narrow ty (.int v) = .int v → v = E → w = w' → va_P D classes w H → va_D A w → va_S A s.heap H locs → W p l e (rm fr lo 0 0) s m args below meth c H locs 0 0 Q (F0 m pc ls [.int v])) →
      ∀ ls : Array Slot, lv_has ls n (lv_args 0 as) → va_S A s.heap s.heap [] → W p l e (rm fr lo 0 0) s m args below meth c s.heap [] 0 0 Q (F0 m 0 ls [])) : MI l y b n rt fr lo D ca as ws E w' := by
  intro sz
  refine Met.ofW (cc := b) (maxL := n) (ret := rt) hy rfl ?_
  intro p e s m args below meth c s₁ B hml hv
  obtain ⟨rfl, rfl, hP, hK, hD0⟩ := hv
  have hts := atoms_spec (ws := wd y b n rt) B.pre
  have hr := B.returns
  have hlocks := B.notSynchronized
  have hl := lv_entry as (n := n) hle
  rw [lg_entry_eq]
  generalize (lg_sl as ++ List.replicate (n - (lg_sl as).length) Slot.unset).toArray = ls at hl ⊢
  refine body p e s m _ below meth c _ (va_A ws s.heap.size) ⟨B.exec, B.bytes, hml, findClass_of_methodNamed B.named, fun w hw => hts w (List.mem_cons_of_mem _ hw)⟩ (fun q h => Or.inr h) hP hD0.self hK ?_ ls hl va_S.rf
  intro pc ls v H locs w hd hn hv hw hP hD hS
  subst hw
  exact W.zret (ty := ty) B.exec B.bytes (by rw [hr, hrt]) hn (fun t ht _ => ⟨⟨v, (), rfl, hv, by rw [ht]; exact hP, hD⟩, hS.F ht⟩) hS.2.2 hd
theorem MV.mk {l : Launch} {y : MethodName} {b : ByteArray} {n : Nat} {fr lo : Nat} {D : va_G} {ca : Nat → ClassId} {as : List Value} {ws w' : va_W} (hy : plainName y.cls = true) (hle : (lg_sl as).length ≤ n)
    (body : ∀ (p : Program) (e : Env) (s : State) (m : MethodId) (args : Array Value) (below : List Frame) (meth : Method) (c : Code) (Q : State → Prop) (A : Nat → Prop), CallFix p m c b n s args TB y.cls → (∀ q : Nat, s.heap.size ≤ q → A q) → va_P D classes ws s.heap → va_D A ws → va_K D classes (tys ca) s →
      (∀ (pc : Nat) (ls : Array Slot) (H : Heap) (locs : List Loc) (w : va_W), decode b pc = .ok (.return_, 1) → w = w' → va_P D classes w H → va_D A w → va_S A s.heap H locs → W p l e (rm fr lo 0 0) s m args below meth c H locs 0 0 Q (F0 m pc ls [])) →
      ∀ ls : Array Slot, lv_has ls n (lv_args 0 as) → va_S A s.heap s.heap [] → W p l e (rm fr lo 0 0) s m args below meth c s.heap [] 0 0 Q (F0 m 0 ls [])) : MV l y b n fr lo D ca as ws w' := by
  intro sz
  refine Met.ofW (cc := b) (maxL := n) (ret := none) hy rfl ?_
  intro p e s m args below meth c s₁ B hml hv
  obtain ⟨rfl, rfl, hP, hK, hD0⟩ := hv
  have hts := atoms_spec (ws := wd y b n none) B.pre
  have hr := B.returns
  have hlocks := B.notSynchronized
  have hl := lv_entry as (n := n) hle
  rw [lg_entry_eq]
  generalize (lg_sl as ++ List.replicate (n - (lg_sl as).length) Slot.unset).toArray = ls at hl ⊢
  refine body p e s m _ below meth c _ (va_A ws s.heap.size) ⟨B.exec, B.bytes, hml, findClass_of_methodNamed B.named, fun w hw => hts w (List.mem_cons_of_mem _ hw)⟩ (fun q h => Or.inr h) hP hD0.self hK ?_ ls hl va_S.rf
  intro pc ls H locs w hd hw hP hD hS
  subst hw
  exact W.vret B.exec B.bytes hr (fun t ht _ => ⟨⟨(), rfl, trivial, by rw [ht]; exact hP, hD⟩, hS.F ht⟩) hS.2.2 hd
section FW
variable {p : Program} {l : Launch} {e : Env} {R : Room} {s : State} {m : MethodId} {args : Array Value} {below : List Frame} {meth : Method} {c : Code} {H H0 : Heap} {locs : List Loc} {cells slots : Nat} {Q : State → Prop}
variable {cc : ByteArray} {pc nL : Nat} {ls : Array Slot} {rest st0 : List Value} {D : va_G} {ca : Nat → ClassId} {A : Nat → Prop} {a : Nat} {ws wc wr w1 : va_W} {own : String} {idx : Nat} {y : MethodName} {b : ByteArray} {n k fr lo : Nat} {rt : Option FieldType} {As : List Value} {E : Int32}
theorem lv_tope {x z : Int32} (h : x = z) (k : W p l e R s m args below meth c H locs cells slots Q (F0 m pc ls (.int z :: rest))) : W p l e R s m args below meth c H locs cells slots Q (F0 m pc ls (.int x :: rest)) := by rw [h]; exact k
theorem w_pc {pc2 : Nat} (h : pc = pc2) (k : W p l e R s m args below meth c H locs cells slots Q (F0 m pc2 ls rest)) : W p l e R s m args below meth c H locs cells slots Q (F0 m pc ls rest) := by rw [h]; exact k
theorem RO.callV (S : CallFix p m c cc nL s args TB own) (hM : RO l y b n rt fr lo D ca (.ref a :: As) wc E) (h : CW own idx y b n rt k) (hP : va_P D classes ws H) (hK : va_K D classes (tys ca) s) (is : List Nat) (his : is.filterMap (fun i => ws[i]?) = wc) (q0 : Nat) {ci : Nat} {fs : List Value} (he : ws[q0]? = some (a, .inr (ci, fs))) (hC : (classes[ci]?).map (fun q => q.1) = some y.cls)
    (hk : As.length = k) (hst : st0 = As.reverse ++ .ref a :: rest) (hsz : ls.size = nL) (hR : fr + 1 ≤ R.frames ∧ 8 + (n + 11) + lo ≤ R.locals) (hc : cells ≤ R.cells ∧ slots ≤ R.slots) (hW : (rest.map fun v => v.category).sum ≤ 8) (hdg : decode cc pc = .ok (.invokevirtual idx, 3))
    (kk : W p l e R s m args below meth c H locs cells slots Q (F0 m (pc + 3) ls (.int E :: rest))) : W p l e R s m args below meth c H locs cells slots Q (F0 m pc ls st0) := by
  subst hst
  obtain ⟨q, hq, hqC⟩ := Option.map_eq_some_iff.mp hC
  have hrv := va_recv hK hP hq he
  rw [hqC] at hrv
  refine vp_callSi (rest := rest) (W.runV (C := y.cls) S hM (CW.cw S.2.2.2.2 h hR) ⟨fun a U g mk z => ⟨z.1, z.2.1, va_K.moved (u := U) (U := U.calling g mk a) (Vm.Alike.refl U.vm) z.2.2⟩, hrv, fun U hU hW => ⟨rfl, by rw [hU]; exact hP.sub is his, va_K.moved hW.alike hK⟩⟩ rfl hk hsz rfl (lv_room hW) hdg hc) (fun r hr => ?_)
  subst hr
  exact kk
theorem RO.callS (S : CallFix p m c cc nL s args TB own) (hM : RO l y b n rt fr lo D ca As [] E) (h : CS own idx y b n rt k) (hK : va_K D classes (tys ca) s)
    (hk : As.length = k) (hst : st0 = As.reverse ++ rest) (hsz : ls.size = nL) (hR : fr + 1 ≤ R.frames ∧ 8 + (n + 11) + lo ≤ R.locals) (hc : cells ≤ R.cells ∧ slots ≤ R.slots) (hW : (rest.map fun v => v.category).sum ≤ 8) (hdg : decode cc pc = .ok (.invokestatic idx, 3))
    (kk : W p l e R s m args below meth c H locs cells slots Q (F0 m (pc + 3) ls (.int E :: rest))) : W p l e R s m args below meth c H locs cells slots Q (F0 m pc ls st0) := by
  subst hst
  refine vp_callSi (rest := rest) (W.runS S hM (CS.cw S.2.2.2.2 h hR) ⟨fun a U g mk z => ⟨z.1, z.2.1, va_K.moved (u := U) (U := U.calling g mk a) (Vm.Alike.refl U.vm) z.2.2⟩, fun U hU hW => ⟨rfl, (fun k q hk => by simp at hk), va_K.moved hW.alike hK⟩⟩ rfl hk hsz rfl (lv_room hW) hdg hc) (fun r hr => ?_)
  subst hr
  exact kk
theorem MI.callV {w' : va_W} (S : CallFix p m c cc nL s args TB own) (hM : MI l y b n rt fr lo D ca (.ref a :: As) wc E w') (h : CW own idx y b n rt k) (hP : va_P D classes ws H) (hD : va_D A ws) (hS : va_S A H0 H locs) (hA : ∀ q, H0.size ≤ q → A q) (hK : va_K D classes (tys ca) s) (isC isR : List Nat) (hC1 : isC.map (fun i => ws[i]?) = wc.map some) (hR1 : isR.map (fun i => ws[i]?) = wr.map some) (hnC : va_nd isC = true) (hnR : va_nd isR = true) (hdis : ∀ i ∈ isR, i ∉ isC) (q0 : Nat) {ci : Nat} {fs : List Value} (he : ws[q0]? = some (a, .inr (ci, fs))) (hC : (classes[ci]?).map (fun q => q.1) = some y.cls)
    (hk : As.length = k) (hst : st0 = As.reverse ++ .ref a :: rest) (hsz : ls.size = nL) (hR : fr + 1 ≤ R.frames ∧ 8 + (n + 11) + lo ≤ R.locals) (hc : cells ≤ R.cells ∧ slots ≤ R.slots) (hW : (rest.map fun v => v.category).sum ≤ 8) (hdg : decode cc pc = .ok (.invokevirtual idx, 3))
    (kk : ∀ (H1 : Heap) (locs1 : List Loc), va_P D classes (wr ++ w') H1 → va_D A (wr ++ w') → va_S A H0 H1 locs1 → W p l e R s m args below meth c H1 locs1 cells slots Q (F0 m (pc + 3) ls (.int E :: rest))) : W p l e R s m args below meth c H locs cells slots Q (F0 m pc ls st0) := by
  subst hst
  obtain ⟨q, hq, hqC⟩ := Option.map_eq_some_iff.mp hC
  have hrv := va_recv hK hP hq he
  rw [hqC] at hrv
  have hFc := va_free (wc := wc) hD hS hA isC hC1
  refine va_calli (rest := rest) (va_runV (C := y.cls) S (hM H.size) (CW.cw S.2.2.2.2 h hR) ⟨fun a U g mk z => ⟨z.1, z.2.1, z.2.2.1, va_K.moved (u := U) (U := U.calling g mk a) (Vm.Alike.refl U.vm) z.2.2.2.1, z.2.2.2.2⟩, hrv, fun U hU hW => ⟨rfl, by rw [hU], by rw [hU]; exact hP.sub isC (fm_of hC1), va_K.moved hW.alike hK, (hD.sub isC hnC hC1).weaken (fun _ _ _ _ => trivial)⟩⟩ rfl hk hsz rfl (lv_room hW) hdg hc) hS (fun q _ h => hFc q h) hFc (fun r u t H1 locs1 ht hvm hr hB hz1 hk1 hS => ?_)
  obtain ⟨hP1, hD1⟩ := hB
  rw [ht] at hP1
  obtain ⟨hP, hD⟩ := va_join (wr := wr) (w1 := w') hP hD isC isR hC1 hR1 hnR hdis hk1 hFc hP1 hD1
  subst hr
  exact kk H1 locs1 hP hD hS
theorem MV.callV {w' : va_W} (S : CallFix p m c cc nL s args TB own) (hM : MV l y b n fr lo D ca (.ref a :: As) wc w') (h : CW own idx y b n none k) (hP : va_P D classes ws H) (hD : va_D A ws) (hS : va_S A H0 H locs) (hA : ∀ q, H0.size ≤ q → A q) (hK : va_K D classes (tys ca) s) (isC isR : List Nat) (hC1 : isC.map (fun i => ws[i]?) = wc.map some) (hR1 : isR.map (fun i => ws[i]?) = wr.map some) (hnC : va_nd isC = true) (hnR : va_nd isR = true) (hdis : ∀ i ∈ isR, i ∉ isC) (q0 : Nat) {ci : Nat} {fs : List Value} (he : ws[q0]? = some (a, .inr (ci, fs))) (hC : (classes[ci]?).map (fun q => q.1) = some y.cls)
    (hk : As.length = k) (hst : st0 = As.reverse ++ .ref a :: rest) (hsz : ls.size = nL) (hR : fr + 1 ≤ R.frames ∧ 8 + (n + 11) + lo ≤ R.locals) (hc : cells ≤ R.cells ∧ slots ≤ R.slots) (hW : (rest.map fun v => v.category).sum ≤ 8) (hdg : decode cc pc = .ok (.invokevirtual idx, 3))
    (kk : ∀ (H1 : Heap) (locs1 : List Loc), va_P D classes (wr ++ w') H1 → va_D A (wr ++ w') → va_S A H0 H1 locs1 → W p l e R s m args below meth c H1 locs1 cells slots Q (F0 m (pc + 3) ls rest)) : W p l e R s m args below meth c H locs cells slots Q (F0 m pc ls st0) := by
  subst hst
  obtain ⟨q, hq, hqC⟩ := Option.map_eq_some_iff.mp hC
  have hrv := va_recv hK hP hq he
  rw [hqC] at hrv
  have hFc := va_free (wc := wc) hD hS hA isC hC1
  refine va_callv (rest := rest) (va_runV (C := y.cls) S (hM H.size) (CW.cw S.2.2.2.2 h hR) ⟨fun a U g mk z => ⟨z.1, z.2.1, z.2.2.1, va_K.moved (u := U) (U := U.calling g mk a) (Vm.Alike.refl U.vm) z.2.2.2.1, z.2.2.2.2⟩, hrv, fun U hU hW => ⟨rfl, by rw [hU], by rw [hU]; exact hP.sub isC (fm_of hC1), va_K.moved hW.alike hK, (hD.sub isC hnC hC1).weaken (fun _ _ _ _ => trivial)⟩⟩ rfl hk hsz rfl (lv_room hW) hdg hc) hS (fun q _ h => hFc q h) hFc (fun u t H1 locs1 ht hvm hr hB hz1 hk1 hS => ?_)
  obtain ⟨hP1, hD1⟩ := hB
  rw [ht] at hP1
  obtain ⟨hP, hD⟩ := va_join (wr := wr) (w1 := w') hP hD isC isR hC1 hR1 hnR hdis hk1 hFc hP1 hD1
  exact kk H1 locs1 hP hD hS
/-- what the tables say of a class's fields -/
def ClsOK (ci : Nat) (C : String) (T : u_T) (t : Nat → FieldType) (N : Nat) : Prop := classes[ci]? = some (C, T, N) ∧ (∀ w ∈ u_ws C T N, w ∈ TB) ∧ (∀ k, k < N → parseFieldDescriptor (T k).2.2.1 = some (t k)) ∧ (∀ a, a < N → ∀ b, b < N → a ≠ b → (T a).2.1 ≠ (T b).2.1)
theorem f_get {ci N : Nat} {C : String} {T : u_T} {t : Nat → FieldType} {fs : List Value} {v : Value} (S : CallFix p m c cc nL s args TB own) (hcl : ClsOK ci C T t N) (hK : va_K D classes (tys ca) s) (hP : va_P D classes ws H) (q0 : Nat) (he : ws[q0]? = some (a, .inr (ci, fs))) (k : Nat) (hk : k < N) (hlink : Cond.fieldLink own idx C (T k).2.1 (T k).2.2.1 ∈ TB) (hr : (T k).1 = C) (hv : fs[k]? = some v) (hdg : decode cc pc = .ok (.getfield idx, 3))
    (kk : W p l e R s m args below meth c H locs cells slots Q (F0 m (pc + 3) ls (v :: rest))) : W p l e R s m args below meth c H locs cells slots Q (F0 m pc ls (.ref a :: rest)) :=
  va_get (D := D) S.1 S.2.1 S.2.2.2.2 hcl.2.1 S.2.2.2.1 hK hP q0 he hcl.1 k hk (S.2.2.2.2 _ hlink) (fun x hx => by rw [← hr]; exact hx) hv hdg kk
theorem f_put {ci N : Nat} {C : String} {T : u_T} {t : Nat → FieldType} {fs : List Value} {v : Value} (S : CallFix p m c cc nL s args TB own) (hcl : ClsOK ci C T t N) (hK : va_K D classes (tys ca) s) (hP : va_P D classes ws H) (hD : va_D A ws) (hS : va_S A H0 H locs) (q0 : Nat) (he : ws[q0]? = some (a, .inr (ci, fs))) (k : Nat) (hk : k < N) (hlink : Cond.fieldLink own idx C (T k).2.1 (T k).2.2.1 ∈ TB) (hr : (T k).1 = C) (hfin : (T k).2.2.2 = false) (hn : narrow (t k) v = v) (hfit : fits (t k) v = true) (hl : k < fs.length) (hdg : decode cc pc = .ok (.putfield idx, 3))
    (kk : ∀ (H1 : Heap) (locs1 : List Loc), va_P D classes (ws.set q0 (a, .inr (ci, fs.set k v))) H1 → va_D A (ws.set q0 (a, .inr (ci, fs.set k v))) → va_S A H0 H1 locs1 → W p l e R s m args below meth c H1 locs1 cells slots Q (F0 m (pc + 3) ls rest)) : W p l e R s m args below meth c H locs cells slots Q (F0 m pc ls (v :: .ref a :: rest)) :=
  va_put (D := D) S.1 S.2.1 S.2.2.2.2 hcl.2.1 t hcl.2.2.1 hcl.2.2.2 S.2.2.2.1 hK hP hD hS q0 he hcl.1 k hk (S.2.2.2.2 _ hlink) (fun x hx => by rw [← hr]; exact hx) hfin (hcl.2.2.1 k hk) hn hfit hl hdg kk
theorem f_putF {ci N : Nat} {C : String} {T : u_T} {t : Nat → FieldType} {fs : List Value} {v : Value} (S : CallFix p m c cc nL s args TB own) (hcl : ClsOK ci C T t N) (hK : va_K D classes (tys ca) s) (hP : va_P D classes ws H) (hD : va_D A ws) (hS : va_S A H0 H locs) (q0 : Nat) (he : ws[q0]? = some (a, .inr (ci, fs))) (k : Nat) (hk : k < N) (hlink : Cond.fieldLink own idx C (T k).2.1 (T k).2.2.1 ∈ TB) (hr : (T k).1 = C) (hfin : (T k).2.2.2 = true) (hin : meth.name = "<init>") (hown : (T k).1 = own) (hn : narrow (t k) v = v) (hfit : fits (t k) v = true) (hl : k < fs.length) (hdg : decode cc pc = .ok (.putfield idx, 3))
    (kk : ∀ (H1 : Heap) (locs1 : List Loc), va_P D classes (ws.set q0 (a, .inr (ci, fs.set k v))) H1 → va_D A (ws.set q0 (a, .inr (ci, fs.set k v))) → va_S A H0 H1 locs1 → W p l e R s m args below meth c H1 locs1 cells slots Q (F0 m (pc + 3) ls rest)) : W p l e R s m args below meth c H locs cells slots Q (F0 m pc ls (v :: .ref a :: rest)) :=
  va_putF (D := D) S.1 S.2.1 S.2.2.2.2 hcl.2.1 t hcl.2.2.1 hcl.2.2.2 S.2.2.2.1 hK hP hD hS q0 he hcl.1 k hk (S.2.2.2.2 _ hlink) (fun x hx => by rw [← hr]; exact hx) hfin hin hown (hcl.2.2.1 k hk) hn hfit hl hdg kk
end FW
end
section
theorem cw_E : (u_ws R_E F_E 8).all (fun w => decide (w ∈ lw_tbl) && goodWord w) = true := by decide +kernel
theorem cls_E : ClsOK 0 R_E F_E ty_E 8 := ⟨rfl, fun w hw => by
  have h := List.all_eq_true.mp cw_E w hw
  simp only [Bool.and_eq_true, decide_eq_true_eq] at h
  exact List.mem_filter.mpr h, by decide +kernel, by decide +kernel⟩
theorem cw_T : (u_ws R_T F_T 13).all (fun w => decide (w ∈ lw_tbl) && goodWord w) = true := by decide +kernel
theorem cls_T : ClsOK 1 R_T F_T ty_T 13 := ⟨rfl, fun w hw => by
  have h := List.all_eq_true.mp cw_T w hw
  simp only [Bool.and_eq_true, decide_eq_true_eq] at h
  exact List.mem_filter.mpr h, by decide +kernel, by decide +kernel⟩
theorem cw_P : (u_ws R_P F_P 2).all (fun w => decide (w ∈ lw_tbl) && goodWord w) = true := by decide +kernel
theorem cls_P : ClsOK 2 R_P F_P ty_P 2 := ⟨rfl, fun w hw => by
  have h := List.all_eq_true.mp cw_P w hw
  simp only [Bool.and_eq_true, decide_eq_true_eq] at h
  exact List.mem_filter.mpr h, by decide +kernel, by decide +kernel⟩
theorem cw_R : (u_ws R_R F_R 8).all (fun w => decide (w ∈ lw_tbl) && goodWord w) = true := by decide +kernel
theorem cls_R : ClsOK 3 R_R F_R ty_R 8 := ⟨rfl, fun w hw => by
  have h := List.all_eq_true.mp cw_R w hw
  simp only [Bool.and_eq_true, decide_eq_true_eq] at h
  exact List.mem_filter.mpr h, by decide +kernel, by decide +kernel⟩
theorem cw_M : (u_ws R_M F_M 13).all (fun w => decide (w ∈ lw_tbl) && goodWord w) = true := by decide +kernel
theorem cls_M : ClsOK 4 R_M F_M ty_M 13 := ⟨rfl, fun w hw => by
  have h := List.all_eq_true.mp cw_M w hw
  simp only [Bool.and_eq_true, decide_eq_true_eq] at h
  exact List.mem_filter.mpr h, by decide +kernel, by decide +kernel⟩
theorem in_L : Cond.initialized "TapeEndsLaw" ∈ TB := tb_mem 52 (by decide +kernel) rfl
theorem in_E : Cond.initialized "TapeEnds" ∈ TB := tb_mem 53 (by decide +kernel) rfl
theorem in_T : Cond.initialized "TapeEnds$Tape" ∈ TB := tb_mem 54 (by decide +kernel) rfl
theorem in_P : Cond.initialized "TapeEnds$Pad" ∈ TB := tb_mem 55 (by decide +kernel) rfl
theorem in_R : Cond.initialized "TapeEnds$OrderReader" ∈ TB := tb_mem 56 (by decide +kernel) rfl
theorem in_M : Cond.initialized "TapeEndsModel" ∈ TB := tb_mem 57 (by decide +kernel) rfl
theorem in_java_lang_System : Cond.initialized "java/lang/System" ∈ TB := tb_mem 58 (by decide +kernel) rfl
theorem in_java_lang_Math : Cond.initialized "java/lang/Math" ∈ TB := tb_mem 59 (by decide +kernel) rfl
theorem cl_L_7 : Cond.classLink "TapeEndsLaw" 7 "TapeEnds" ∈ TB := tb_mem 60 (by decide +kernel) rfl
theorem is_E : Cond.instantiable "TapeEnds" 8 ∈ TB := tb_mem 61 (by decide +kernel) rfl
theorem cl_E_7 : Cond.classLink "TapeEnds" 7 "TapeEnds$Tape" ∈ TB := tb_mem 68 (by decide +kernel) rfl
theorem is_T : Cond.instantiable "TapeEnds$Tape" 13 ∈ TB := tb_mem 69 (by decide +kernel) rfl
theorem fl_T_feet : Cond.fieldLink R_T 9 R_T "feet" "I" ∈ TB := tb_mem 74 (by decide +kernel) rfl
theorem fl_T_leastGap : Cond.fieldLink R_T 15 R_T "leastGap" "I" ∈ TB := tb_mem 75 (by decide +kernel) rfl
theorem fl_T_mark : Cond.fieldLink R_T 18 R_T "mark" "I" ∈ TB := tb_mem 76 (by decide +kernel) rfl
theorem fl_T_head : Cond.fieldLink R_T 21 R_T "head" "I" ∈ TB := tb_mem 77 (by decide +kernel) rfl
theorem fl_T_splices : Cond.fieldLink R_T 24 R_T "splices" "I" ∈ TB := tb_mem 78 (by decide +kernel) rfl
theorem fl_T_feetTakenOut : Cond.fieldLink R_T 27 R_T "feetTakenOut" "I" ∈ TB := tb_mem 79 (by decide +kernel) rfl
theorem fl_T_travel : Cond.fieldLink R_T 30 R_T "travel" "I" ∈ TB := tb_mem 80 (by decide +kernel) rfl
theorem fl_T_blocksRead : Cond.fieldLink R_T 33 R_T "blocksRead" "I" ∈ TB := tb_mem 81 (by decide +kernel) rfl
theorem fl_T_blocks : Cond.fieldLink R_T 36 R_T "blocks" "[I" ∈ TB := tb_mem 82 (by decide +kernel) rfl
theorem fl_T_data : Cond.fieldLink R_T 40 R_T "data" "[I" ∈ TB := tb_mem 83 (by decide +kernel) rfl
theorem fl_T_sums : Cond.fieldLink R_T 43 R_T "sums" "[I" ∈ TB := tb_mem 84 (by decide +kernel) rfl
theorem fl_T_marks : Cond.fieldLink R_T 46 R_T "marks" "[I" ∈ TB := tb_mem 85 (by decide +kernel) rfl
theorem fl_T_timesRead : Cond.fieldLink R_T 49 R_T "timesRead" "[I" ∈ TB := tb_mem 86 (by decide +kernel) rfl
theorem ac_int : Cond.arrayClass .int ∈ TB := tb_mem 114 (by decide +kernel) rfl
theorem cl_E_30 : Cond.classLink "TapeEnds" 30 "TapeEnds$Pad" ∈ TB := tb_mem 116 (by decide +kernel) rfl
theorem is_P : Cond.instantiable "TapeEnds$Pad" 2 ∈ TB := tb_mem 117 (by decide +kernel) rfl
theorem fl_P_text : Cond.fieldLink R_P 11 R_P "text" "[C" ∈ TB := tb_mem 122 (by decide +kernel) rfl
theorem fl_P_size : Cond.fieldLink R_P 15 R_P "size" "I" ∈ TB := tb_mem 123 (by decide +kernel) rfl
theorem ac_boolean : Cond.arrayClass .boolean ∈ TB := tb_mem 129 (by decide +kernel) rfl
theorem ac_char : Cond.arrayClass .char ∈ TB := tb_mem 130 (by decide +kernel) rfl
theorem cl_E_37 : Cond.classLink "TapeEnds" 37 "TapeEnds$OrderReader" ∈ TB := tb_mem 131 (by decide +kernel) rfl
theorem is_R : Cond.instantiable "TapeEnds$OrderReader" 8 ∈ TB := tb_mem 132 (by decide +kernel) rfl
theorem fl_R_pad : Cond.fieldLink R_R 11 R_R "pad" "LTapeEnds$Pad;" ∈ TB := tb_mem 137 (by decide +kernel) rfl
theorem fl_R_position : Cond.fieldLink R_R 17 R_R "position" "I" ∈ TB := tb_mem 138 (by decide +kernel) rfl
theorem fl_R_failed : Cond.fieldLink R_R 21 R_R "failed" "Z" ∈ TB := tb_mem 139 (by decide +kernel) rfl
theorem fl_R_kind : Cond.fieldLink R_R 46 R_R "kind" "C" ∈ TB := tb_mem 140 (by decide +kernel) rfl
theorem fl_R_file : Cond.fieldLink R_R 50 R_R "file" "I" ∈ TB := tb_mem 141 (by decide +kernel) rfl
theorem fl_R_number : Cond.fieldLink R_R 53 R_R "number" "I" ∈ TB := tb_mem 142 (by decide +kernel) rfl
theorem fl_R_sum : Cond.fieldLink R_R 56 R_R "sum" "I" ∈ TB := tb_mem 143 (by decide +kernel) rfl
theorem fl_R_backwards : Cond.fieldLink R_R 65 R_R "backwards" "I" ∈ TB := tb_mem 144 (by decide +kernel) rfl
theorem fl_E_past : Cond.fieldLink R_E 19 R_E "past" "[LTapeEnds$Tape;" ∈ TB := tb_mem 162 (by decide +kernel) rfl
theorem fl_E_slots : Cond.fieldLink R_E 23 R_E "slots" "[LTapeEnds$Tape;" ∈ TB := tb_mem 163 (by decide +kernel) rfl
theorem fl_E_saved : Cond.fieldLink R_E 26 R_E "saved" "[Z" ∈ TB := tb_mem 164 (by decide +kernel) rfl
theorem fl_E_pad : Cond.fieldLink R_E 33 R_E "pad" "LTapeEnds$Pad;" ∈ TB := tb_mem 165 (by decide +kernel) rfl
theorem fl_E_reader : Cond.fieldLink R_E 42 R_E "reader" "LTapeEnds$OrderReader;" ∈ TB := tb_mem 166 (by decide +kernel) rfl
theorem fl_E_tape : Cond.fieldLink R_E 10 R_E "tape" "LTapeEnds$Tape;" ∈ TB := tb_mem 167 (by decide +kernel) rfl
theorem fl_E_before : Cond.fieldLink R_E 16 R_E "before" "LTapeEnds$Tape;" ∈ TB := tb_mem 168 (by decide +kernel) rfl
theorem fl_E_pastCount : Cond.fieldLink R_E 46 R_E "pastCount" "I" ∈ TB := tb_mem 169 (by decide +kernel) rfl
theorem ct_T_105 : Cond.constant "TapeEnds$Tape" 105 (1000000000 : Int32) ∈ TB := tb_mem 264 (by decide +kernel) rfl
theorem ct_P_23 : Cond.constantLong "TapeEnds$Pad" 23 (255 : Int64) ∈ TB := tb_mem 408 (by decide +kernel) rfl
theorem ct_P_25 : Cond.constantLong "TapeEnds$Pad" 25 (33 : Int64) ∈ TB := tb_mem 409 (by decide +kernel) rfl
theorem ct_P_27 : Cond.constantLong "TapeEnds$Pad" 27 (126 : Int64) ∈ TB := tb_mem 410 (by decide +kernel) rfl
theorem cl_L_10 : Cond.classLink "TapeEndsLaw" 10 "TapeEndsModel" ∈ TB := tb_mem 501 (by decide +kernel) rfl
theorem is_M : Cond.instantiable "TapeEndsModel" 13 ∈ TB := tb_mem 502 (by decide +kernel) rfl
theorem fl_M_s : Cond.fieldLink R_M 7 R_M "s" "[I" ∈ TB := tb_mem 507 (by decide +kernel) rfl
theorem fl_M_before : Cond.fieldLink R_M 13 R_M "before" "[I" ∈ TB := tb_mem 508 (by decide +kernel) rfl
theorem fl_M_known : Cond.fieldLink R_M 34 R_M "known" "I" ∈ TB := tb_mem 509 (by decide +kernel) rfl
theorem fl_M_slots : Cond.fieldLink R_M 16 R_M "slots" "[I" ∈ TB := tb_mem 510 (by decide +kernel) rfl
theorem fl_M_isSaved : Cond.fieldLink R_M 19 R_M "isSaved" "[Z" ∈ TB := tb_mem 511 (by decide +kernel) rfl
theorem fl_M_pad : Cond.fieldLink R_M 23 R_M "pad" "[I" ∈ TB := tb_mem 512 (by decide +kernel) rfl
theorem fl_M_padLength : Cond.fieldLink R_M 118 R_M "padLength" "I" ∈ TB := tb_mem 513 (by decide +kernel) rfl
theorem fl_M_place : Cond.fieldLink R_M 123 R_M "place" "I" ∈ TB := tb_mem 514 (by decide +kernel) rfl
theorem fl_M_isWrong : Cond.fieldLink R_M 126 R_M "isWrong" "Z" ∈ TB := tb_mem 515 (by decide +kernel) rfl
theorem fl_M_letter : Cond.fieldLink R_M 136 R_M "letter" "I" ∈ TB := tb_mem 516 (by decide +kernel) rfl
theorem fl_M_one : Cond.fieldLink R_M 139 R_M "one" "I" ∈ TB := tb_mem 517 (by decide +kernel) rfl
theorem fl_M_two : Cond.fieldLink R_M 145 R_M "two" "I" ∈ TB := tb_mem 518 (by decide +kernel) rfl
theorem fl_M_three : Cond.fieldLink R_M 148 R_M "three" "I" ∈ TB := tb_mem 519 (by decide +kernel) rfl
theorem ct_M_62 : Cond.constant "TapeEndsModel" 62 (1000000000 : Int32) ∈ TB := tb_mem 607 (by decide +kernel) rfl
theorem ct_M_121 : Cond.constantLong "TapeEndsModel" 121 (255 : Int64) ∈ TB := tb_mem 712 (by decide +kernel) rfl
theorem ct_L_77 : Cond.constantLong "TapeEndsLaw" 77 (4294967295 : Int64) ∈ TB := tb_mem 761 (by decide +kernel) rfl
abbrev b_E_init : ByteArray := prog_1_method_1_code
abbrev y_E_init : MethodName := ⟨"TapeEnds", "<init>", "()V"⟩
theorem mc_E_init : Cond.code y_E_init b_E_init 2 none ∈ TB := tb_mem 64 (by decide +kernel) rfl
theorem mi_E_init : Cond.instanceMethod y_E_init ∈ TB := tb_mem 63 (by decide +kernel) rfl
abbrev b_E_length : ByteArray := prog_1_method_2_code
abbrev y_E_length : MethodName := ⟨"TapeEnds", "length", "(I)I"⟩
theorem mc_E_length : Cond.code y_E_length b_E_length 2 (some .int) ∈ TB := tb_mem 190 (by decide +kernel) rfl
theorem ms_E_length : Cond.selects y_E_length.cls y_E_length y_E_length ∈ TB := tb_mem 189 (by decide +kernel) rfl
theorem mi_E_length : Cond.instanceMethod y_E_length ∈ TB := tb_mem 188 (by decide +kernel) rfl
abbrev b_E_tune : ByteArray := prog_1_method_3_code
abbrev y_E_tune : MethodName := ⟨"TapeEnds", "tune", "(II)I"⟩
theorem mc_E_tune : Cond.code y_E_tune b_E_tune 3 (some .int) ∈ TB := tb_mem 220 (by decide +kernel) rfl
theorem ms_E_tune : Cond.selects y_E_tune.cls y_E_tune y_E_tune ∈ TB := tb_mem 219 (by decide +kernel) rfl
theorem mi_E_tune : Cond.instanceMethod y_E_tune ∈ TB := tb_mem 218 (by decide +kernel) rfl
abbrev b_E_write : ByteArray := prog_1_method_4_code
abbrev y_E_write : MethodName := ⟨"TapeEnds", "write", "(III)I"⟩
theorem mc_E_write : Cond.code y_E_write b_E_write 4 (some .int) ∈ TB := tb_mem 244 (by decide +kernel) rfl
theorem ms_E_write : Cond.selects y_E_write.cls y_E_write y_E_write ∈ TB := tb_mem 243 (by decide +kernel) rfl
theorem mi_E_write : Cond.instanceMethod y_E_write ∈ TB := tb_mem 242 (by decide +kernel) rfl
abbrev b_E_cut : ByteArray := prog_1_method_5_code
abbrev y_E_cut : MethodName := ⟨"TapeEnds", "cut", "(II)I"⟩
theorem mc_E_cut : Cond.code y_E_cut b_E_cut 3 (some .int) ∈ TB := tb_mem 268 (by decide +kernel) rfl
theorem ms_E_cut : Cond.selects y_E_cut.cls y_E_cut y_E_cut ∈ TB := tb_mem 267 (by decide +kernel) rfl
theorem mi_E_cut : Cond.instanceMethod y_E_cut ∈ TB := tb_mem 266 (by decide +kernel) rfl
abbrev b_E_move : ByteArray := prog_1_method_6_code
abbrev y_E_move : MethodName := ⟨"TapeEnds", "move", "(I)I"⟩
theorem mc_E_move : Cond.code y_E_move b_E_move 2 (some .int) ∈ TB := tb_mem 276 (by decide +kernel) rfl
theorem ms_E_move : Cond.selects y_E_move.cls y_E_move y_E_move ∈ TB := tb_mem 275 (by decide +kernel) rfl
theorem mi_E_move : Cond.instanceMethod y_E_move ∈ TB := tb_mem 274 (by decide +kernel) rfl
abbrev b_E_rewind : ByteArray := prog_1_method_7_code
abbrev y_E_rewind : MethodName := ⟨"TapeEnds", "rewind", "()I"⟩
theorem mc_E_rewind : Cond.code y_E_rewind b_E_rewind 1 (some .int) ∈ TB := tb_mem 284 (by decide +kernel) rfl
theorem ms_E_rewind : Cond.selects y_E_rewind.cls y_E_rewind y_E_rewind ∈ TB := tb_mem 283 (by decide +kernel) rfl
theorem mi_E_rewind : Cond.instanceMethod y_E_rewind ∈ TB := tb_mem 282 (by decide +kernel) rfl
abbrev b_E_read : ByteArray := prog_1_method_8_code
abbrev y_E_read : MethodName := ⟨"TapeEnds", "read", "(III)I"⟩
theorem mc_E_read : Cond.code y_E_read b_E_read 4 (some .int) ∈ TB := tb_mem 292 (by decide +kernel) rfl
theorem ms_E_read : Cond.selects y_E_read.cls y_E_read y_E_read ∈ TB := tb_mem 291 (by decide +kernel) rfl
theorem mi_E_read : Cond.instanceMethod y_E_read ∈ TB := tb_mem 290 (by decide +kernel) rfl
abbrev b_E_splice : ByteArray := prog_1_method_9_code
abbrev y_E_splice : MethodName := ⟨"TapeEnds", "splice", "(II)I"⟩
theorem mc_E_splice : Cond.code y_E_splice b_E_splice 3 (some .int) ∈ TB := tb_mem 312 (by decide +kernel) rfl
theorem ms_E_splice : Cond.selects y_E_splice.cls y_E_splice y_E_splice ∈ TB := tb_mem 311 (by decide +kernel) rfl
theorem mi_E_splice : Cond.instanceMethod y_E_splice ∈ TB := tb_mem 310 (by decide +kernel) rfl
abbrev b_E_ofFile : ByteArray := prog_1_method_10_code
abbrev y_E_ofFile : MethodName := ⟨"TapeEnds", "ofFile", "(II)I"⟩
theorem mc_E_ofFile : Cond.code y_E_ofFile b_E_ofFile 3 (some .int) ∈ TB := tb_mem 331 (by decide +kernel) rfl
theorem ms_E_ofFile : Cond.selects y_E_ofFile.cls y_E_ofFile y_E_ofFile ∈ TB := tb_mem 330 (by decide +kernel) rfl
theorem mi_E_ofFile : Cond.instanceMethod y_E_ofFile ∈ TB := tb_mem 329 (by decide +kernel) rfl
abbrev b_E_ofBlock : ByteArray := prog_1_method_11_code
abbrev y_E_ofBlock : MethodName := ⟨"TapeEnds", "ofBlock", "(III)I"⟩
theorem mc_E_ofBlock : Cond.code y_E_ofBlock b_E_ofBlock 4 (some .int) ∈ TB := tb_mem 343 (by decide +kernel) rfl
theorem ms_E_ofBlock : Cond.selects y_E_ofBlock.cls y_E_ofBlock y_E_ofBlock ∈ TB := tb_mem 342 (by decide +kernel) rfl
theorem mi_E_ofBlock : Cond.instanceMethod y_E_ofBlock ∈ TB := tb_mem 341 (by decide +kernel) rfl
abbrev b_E_at : ByteArray := prog_1_method_12_code
abbrev y_E_at : MethodName := ⟨"TapeEnds", "at", "(I)I"⟩
theorem mc_E_at : Cond.code y_E_at b_E_at 2 (some .int) ∈ TB := tb_mem 355 (by decide +kernel) rfl
theorem ms_E_at : Cond.selects y_E_at.cls y_E_at y_E_at ∈ TB := tb_mem 354 (by decide +kernel) rfl
theorem mi_E_at : Cond.instanceMethod y_E_at ∈ TB := tb_mem 353 (by decide +kernel) rfl
abbrev b_E_count : ByteArray := prog_1_method_13_code
abbrev y_E_count : MethodName := ⟨"TapeEnds", "count", "(I)I"⟩
theorem mc_E_count : Cond.code y_E_count b_E_count 2 (some .int) ∈ TB := tb_mem 363 (by decide +kernel) rfl
theorem ms_E_count : Cond.selects y_E_count.cls y_E_count y_E_count ∈ TB := tb_mem 362 (by decide +kernel) rfl
theorem mi_E_count : Cond.instanceMethod y_E_count ∈ TB := tb_mem 361 (by decide +kernel) rfl
abbrev b_E_fits : ByteArray := prog_1_method_14_code
abbrev y_E_fits : MethodName := ⟨"TapeEnds", "fits", "(I)I"⟩
theorem mc_E_fits : Cond.code y_E_fits b_E_fits 2 (some .int) ∈ TB := tb_mem 375 (by decide +kernel) rfl
theorem ms_E_fits : Cond.selects y_E_fits.cls y_E_fits y_E_fits ∈ TB := tb_mem 374 (by decide +kernel) rfl
theorem mi_E_fits : Cond.instanceMethod y_E_fits ∈ TB := tb_mem 373 (by decide +kernel) rfl
abbrev b_E_rooms : ByteArray := prog_1_method_15_code
abbrev y_E_rooms : MethodName := ⟨"TapeEnds", "rooms", "(I)I"⟩
theorem mc_E_rooms : Cond.code y_E_rooms b_E_rooms 2 (some .int) ∈ TB := tb_mem 383 (by decide +kernel) rfl
theorem ms_E_rooms : Cond.selects y_E_rooms.cls y_E_rooms y_E_rooms ∈ TB := tb_mem 382 (by decide +kernel) rfl
theorem mi_E_rooms : Cond.instanceMethod y_E_rooms ∈ TB := tb_mem 381 (by decide +kernel) rfl
abbrev b_E_nearest : ByteArray := prog_1_method_16_code
abbrev y_E_nearest : MethodName := ⟨"TapeEnds", "nearest", "(I)I"⟩
theorem mc_E_nearest : Cond.code y_E_nearest b_E_nearest 2 (some .int) ∈ TB := tb_mem 391 (by decide +kernel) rfl
theorem ms_E_nearest : Cond.selects y_E_nearest.cls y_E_nearest y_E_nearest ∈ TB := tb_mem 390 (by decide +kernel) rfl
theorem mi_E_nearest : Cond.instanceMethod y_E_nearest ∈ TB := tb_mem 389 (by decide +kernel) rfl
abbrev b_E_put : ByteArray := prog_1_method_17_code
abbrev y_E_put : MethodName := ⟨"TapeEnds", "put", "(J)I"⟩
theorem mc_E_put : Cond.code y_E_put b_E_put 3 (some .int) ∈ TB := tb_mem 399 (by decide +kernel) rfl
theorem ms_E_put : Cond.selects y_E_put.cls y_E_put y_E_put ∈ TB := tb_mem 398 (by decide +kernel) rfl
theorem mi_E_put : Cond.instanceMethod y_E_put ∈ TB := tb_mem 397 (by decide +kernel) rfl
abbrev b_E_wipe : ByteArray := prog_1_method_18_code
abbrev y_E_wipe : MethodName := ⟨"TapeEnds", "wipe", "()I"⟩
theorem mc_E_wipe : Cond.code y_E_wipe b_E_wipe 1 (some .int) ∈ TB := tb_mem 414 (by decide +kernel) rfl
theorem ms_E_wipe : Cond.selects y_E_wipe.cls y_E_wipe y_E_wipe ∈ TB := tb_mem 413 (by decide +kernel) rfl
theorem mi_E_wipe : Cond.instanceMethod y_E_wipe ∈ TB := tb_mem 412 (by decide +kernel) rfl
abbrev b_E_fault : ByteArray := prog_1_method_19_code
abbrev y_E_fault : MethodName := ⟨"TapeEnds", "fault", "()I"⟩
theorem mc_E_fault : Cond.code y_E_fault b_E_fault 1 (some .int) ∈ TB := tb_mem 422 (by decide +kernel) rfl
theorem ms_E_fault : Cond.selects y_E_fault.cls y_E_fault y_E_fault ∈ TB := tb_mem 421 (by decide +kernel) rfl
theorem mi_E_fault : Cond.instanceMethod y_E_fault ∈ TB := tb_mem 420 (by decide +kernel) rfl
abbrev b_E_carryOut : ByteArray := prog_1_method_20_code
abbrev y_E_carryOut : MethodName := ⟨"TapeEnds", "carryOut", "()I"⟩
theorem mc_E_carryOut : Cond.code y_E_carryOut b_E_carryOut 2 (some .int) ∈ TB := tb_mem 471 (by decide +kernel) rfl
theorem ms_E_carryOut : Cond.selects y_E_carryOut.cls y_E_carryOut y_E_carryOut ∈ TB := tb_mem 470 (by decide +kernel) rfl
theorem mi_E_carryOut : Cond.instanceMethod y_E_carryOut ∈ TB := tb_mem 469 (by decide +kernel) rfl
abbrev b_E_carryOutOrders : ByteArray := prog_1_method_21_code
abbrev y_E_carryOutOrders : MethodName := ⟨"TapeEnds", "carryOutOrders", "()I"⟩
theorem mc_E_carryOutOrders : Cond.code y_E_carryOutOrders b_E_carryOutOrders 2 (some .int) ∈ TB := tb_mem 475 (by decide +kernel) rfl
theorem ms_E_carryOutOrders : Cond.selects y_E_carryOutOrders.cls y_E_carryOutOrders y_E_carryOutOrders ∈ TB := tb_mem 23 (by decide +kernel) rfl
theorem mi_E_carryOutOrders : Cond.instanceMethod y_E_carryOutOrders ∈ TB := tb_mem 474 (by decide +kernel) rfl
abbrev b_E_undo : ByteArray := prog_1_method_22_code
abbrev y_E_undo : MethodName := ⟨"TapeEnds", "undo", "()I"⟩
theorem mc_E_undo : Cond.code y_E_undo b_E_undo 1 (some .int) ∈ TB := tb_mem 491 (by decide +kernel) rfl
theorem ms_E_undo : Cond.selects y_E_undo.cls y_E_undo y_E_undo ∈ TB := tb_mem 490 (by decide +kernel) rfl
theorem mi_E_undo : Cond.instanceMethod y_E_undo ∈ TB := tb_mem 489 (by decide +kernel) rfl
abbrev b_E_save : ByteArray := prog_1_method_23_code
abbrev y_E_save : MethodName := ⟨"TapeEnds", "save", "(I)I"⟩
theorem mc_E_save : Cond.code y_E_save b_E_save 2 (some .int) ∈ TB := tb_mem 495 (by decide +kernel) rfl
theorem ms_E_save : Cond.selects y_E_save.cls y_E_save y_E_save ∈ TB := tb_mem 494 (by decide +kernel) rfl
theorem mi_E_save : Cond.instanceMethod y_E_save ∈ TB := tb_mem 493 (by decide +kernel) rfl
abbrev b_E_restore : ByteArray := prog_1_method_24_code
abbrev y_E_restore : MethodName := ⟨"TapeEnds", "restore", "(I)I"⟩
theorem mc_E_restore : Cond.code y_E_restore b_E_restore 2 (some .int) ∈ TB := tb_mem 500 (by decide +kernel) rfl
theorem ms_E_restore : Cond.selects y_E_restore.cls y_E_restore y_E_restore ∈ TB := tb_mem 499 (by decide +kernel) rfl
theorem mi_E_restore : Cond.instanceMethod y_E_restore ∈ TB := tb_mem 498 (by decide +kernel) rfl
abbrev b_E_recorded : ByteArray := prog_1_method_25_code
abbrev y_E_recorded : MethodName := ⟨"TapeEnds", "recorded", "(I)I"⟩
theorem mc_E_recorded : Cond.code y_E_recorded b_E_recorded 3 (some .int) ∈ TB := tb_mem 212 (by decide +kernel) rfl
theorem ms_E_recorded : Cond.selects y_E_recorded.cls y_E_recorded y_E_recorded ∈ TB := tb_mem 0 (by decide +kernel) rfl
theorem mi_E_recorded : Cond.instanceMethod y_E_recorded ∈ TB := tb_mem 211 (by decide +kernel) rfl
abbrev b_E_dropOldest : ByteArray := prog_1_method_26_code
abbrev y_E_dropOldest : MethodName := ⟨"TapeEnds", "dropOldest", "()V"⟩
theorem mc_E_dropOldest : Cond.code y_E_dropOldest b_E_dropOldest 3 none ∈ TB := tb_mem 216 (by decide +kernel) rfl
theorem ms_E_dropOldest : Cond.selects y_E_dropOldest.cls y_E_dropOldest y_E_dropOldest ∈ TB := tb_mem 1 (by decide +kernel) rfl
theorem mi_E_dropOldest : Cond.instanceMethod y_E_dropOldest ∈ TB := tb_mem 215 (by decide +kernel) rfl
abbrev b_M_init : ByteArray := prog_6_method_1_code
abbrev y_M_init : MethodName := ⟨"TapeEndsModel", "<init>", "()V"⟩
theorem mc_M_init : Cond.code y_M_init b_M_init 1 none ∈ TB := tb_mem 505 (by decide +kernel) rfl
theorem mi_M_init : Cond.instanceMethod y_M_init ∈ TB := tb_mem 504 (by decide +kernel) rfl
abbrev b_M_in : ByteArray := prog_6_method_3_code
abbrev y_M_in : MethodName := ⟨"TapeEndsModel", "in", "(III)Z"⟩
theorem mc_M_in : Cond.code y_M_in b_M_in 3 (some .boolean) ∈ TB := tb_mem 553 (by decide +kernel) rfl
theorem mz_M_in : Cond.static y_M_in ∈ TB := tb_mem 552 (by decide +kernel) rfl
abbrev b_M_isFile : ByteArray := prog_6_method_4_code
abbrev y_M_isFile : MethodName := ⟨"TapeEndsModel", "isFile", "(I)Z"⟩
theorem mc_M_isFile : Cond.code y_M_isFile b_M_isFile 1 (some .boolean) ∈ TB := tb_mem 595 (by decide +kernel) rfl
theorem mz_M_isFile : Cond.static y_M_isFile ∈ TB := tb_mem 594 (by decide +kernel) rfl
abbrev b_M_isBlock : ByteArray := prog_6_method_5_code
abbrev y_M_isBlock : MethodName := ⟨"TapeEndsModel", "isBlock", "(II)Z"⟩
theorem mc_M_isBlock : Cond.code y_M_isBlock b_M_isBlock 3 (some .boolean) ∈ TB := tb_mem 647 (by decide +kernel) rfl
theorem ms_M_isBlock : Cond.selects y_M_isBlock.cls y_M_isBlock y_M_isBlock ∈ TB := tb_mem 38 (by decide +kernel) rfl
theorem mi_M_isBlock : Cond.instanceMethod y_M_isBlock ∈ TB := tb_mem 646 (by decide +kernel) rfl
abbrev b_M_of : ByteArray := prog_6_method_6_code
abbrev y_M_of : MethodName := ⟨"TapeEndsModel", "of", "(III)I"⟩
theorem mc_M_of : Cond.code y_M_of b_M_of 3 (some .int) ∈ TB := tb_mem 584 (by decide +kernel) rfl
theorem mz_M_of : Cond.static y_M_of ∈ TB := tb_mem 583 (by decide +kernel) rfl
abbrev b_M_apart : ByteArray := prog_6_method_7_code
abbrev y_M_apart : MethodName := ⟨"TapeEndsModel", "apart", "(II)I"⟩
theorem mc_M_apart : Cond.code y_M_apart b_M_apart 2 (some .int) ∈ TB := tb_mem 606 (by decide +kernel) rfl
theorem mz_M_apart : Cond.static y_M_apart ∈ TB := tb_mem 605 (by decide +kernel) rfl
abbrev b_M_know : ByteArray := prog_6_method_8_code
abbrev y_M_know : MethodName := ⟨"TapeEndsModel", "know", "()V"⟩
theorem mc_M_know : Cond.code y_M_know b_M_know 2 none ∈ TB := tb_mem 557 (by decide +kernel) rfl
theorem ms_M_know : Cond.selects y_M_know.cls y_M_know y_M_know ∈ TB := tb_mem 24 (by decide +kernel) rfl
theorem mi_M_know : Cond.instanceMethod y_M_know ∈ TB := tb_mem 556 (by decide +kernel) rfl
abbrev b_M_whole : ByteArray := prog_6_method_9_code
abbrev y_M_whole : MethodName := ⟨"TapeEndsModel", "whole", "(II)I"⟩
theorem mc_M_whole : Cond.code y_M_whole b_M_whole 3 (some .int) ∈ TB := tb_mem 581 (by decide +kernel) rfl
theorem ms_M_whole : Cond.selects y_M_whole.cls y_M_whole y_M_whole ∈ TB := tb_mem 29 (by decide +kernel) rfl
theorem mi_M_whole : Cond.instanceMethod y_M_whole ∈ TB := tb_mem 580 (by decide +kernel) rfl
abbrev b_M_feet : ByteArray := prog_6_method_10_code
abbrev y_M_feet : MethodName := ⟨"TapeEndsModel", "feet", "(II)I"⟩
theorem mc_M_feet : Cond.code y_M_feet b_M_feet 5 (some .int) ∈ TB := tb_mem 577 (by decide +kernel) rfl
theorem ms_M_feet : Cond.selects y_M_feet.cls y_M_feet y_M_feet ∈ TB := tb_mem 28 (by decide +kernel) rfl
theorem mi_M_feet : Cond.instanceMethod y_M_feet ∈ TB := tb_mem 576 (by decide +kernel) rfl
abbrev b_M_allFeet : ByteArray := prog_6_method_11_code
abbrev y_M_allFeet : MethodName := ⟨"TapeEndsModel", "allFeet", "(I)I"⟩
theorem mc_M_allFeet : Cond.code y_M_allFeet b_M_allFeet 2 (some .int) ∈ TB := tb_mem 573 (by decide +kernel) rfl
theorem ms_M_allFeet : Cond.selects y_M_allFeet.cls y_M_allFeet y_M_allFeet ∈ TB := tb_mem 27 (by decide +kernel) rfl
theorem mi_M_allFeet : Cond.instanceMethod y_M_allFeet ∈ TB := tb_mem 572 (by decide +kernel) rfl
abbrev b_M_end : ByteArray := prog_6_method_12_code
abbrev y_M_end : MethodName := ⟨"TapeEndsModel", "end", "(I)I"⟩
theorem mc_M_end : Cond.code y_M_end b_M_end 2 (some .int) ∈ TB := tb_mem 569 (by decide +kernel) rfl
theorem ms_M_end : Cond.selects y_M_end.cls y_M_end y_M_end ∈ TB := tb_mem 26 (by decide +kernel) rfl
theorem mi_M_end : Cond.instanceMethod y_M_end ∈ TB := tb_mem 568 (by decide +kernel) rfl
abbrev b_M_gap : ByteArray := prog_6_method_13_code
abbrev y_M_gap : MethodName := ⟨"TapeEndsModel", "gap", "()I"⟩
theorem mc_M_gap : Cond.code y_M_gap b_M_gap 1 (some .int) ∈ TB := tb_mem 565 (by decide +kernel) rfl
theorem ms_M_gap : Cond.selects y_M_gap.cls y_M_gap y_M_gap ∈ TB := tb_mem 25 (by decide +kernel) rfl
theorem mi_M_gap : Cond.instanceMethod y_M_gap ∈ TB := tb_mem 564 (by decide +kernel) rfl
abbrev b_M_lower : ByteArray := prog_6_method_14_code
abbrev y_M_lower : MethodName := ⟨"TapeEndsModel", "lower", "(II)I"⟩
theorem mc_M_lower : Cond.code y_M_lower b_M_lower 3 (some .int) ∈ TB := tb_mem 659 (by decide +kernel) rfl
theorem ms_M_lower : Cond.selects y_M_lower.cls y_M_lower y_M_lower ∈ TB := tb_mem 41 (by decide +kernel) rfl
theorem mi_M_lower : Cond.instanceMethod y_M_lower ∈ TB := tb_mem 658 (by decide +kernel) rfl
abbrev b_M_upper : ByteArray := prog_6_method_15_code
abbrev y_M_upper : MethodName := ⟨"TapeEndsModel", "upper", "(II)I"⟩
theorem mc_M_upper : Cond.code y_M_upper b_M_upper 3 (some .int) ∈ TB := tb_mem 663 (by decide +kernel) rfl
theorem ms_M_upper : Cond.selects y_M_upper.cls y_M_upper y_M_upper ∈ TB := tb_mem 42 (by decide +kernel) rfl
theorem mi_M_upper : Cond.instanceMethod y_M_upper ∈ TB := tb_mem 662 (by decide +kernel) rfl
abbrev b_M_travel : ByteArray := prog_6_method_16_code
abbrev y_M_travel : MethodName := ⟨"TapeEndsModel", "travel", "(I)V"⟩
theorem mc_M_travel : Cond.code y_M_travel b_M_travel 2 none ∈ TB := tb_mem 603 (by decide +kernel) rfl
theorem ms_M_travel : Cond.selects y_M_travel.cls y_M_travel y_M_travel ∈ TB := tb_mem 32 (by decide +kernel) rfl
theorem mi_M_travel : Cond.instanceMethod y_M_travel ∈ TB := tb_mem 602 (by decide +kernel) rfl
abbrev b_M_endOf : ByteArray := prog_6_method_17_code
abbrev y_M_endOf : MethodName := ⟨"TapeEndsModel", "endOf", "(IIIZ)I"⟩
theorem mc_M_endOf : Cond.code y_M_endOf b_M_endOf 6 (some .int) ∈ TB := tb_mem 655 (by decide +kernel) rfl
theorem ms_M_endOf : Cond.selects y_M_endOf.cls y_M_endOf y_M_endOf ∈ TB := tb_mem 40 (by decide +kernel) rfl
theorem mi_M_endOf : Cond.instanceMethod y_M_endOf ∈ TB := tb_mem 654 (by decide +kernel) rfl
abbrev b_M_travelTo : ByteArray := prog_6_method_18_code
abbrev y_M_travelTo : MethodName := ⟨"TapeEndsModel", "travelTo", "(III)I"⟩
theorem mc_M_travelTo : Cond.code y_M_travelTo b_M_travelTo 4 (some .int) ∈ TB := tb_mem 687 (by decide +kernel) rfl
theorem ms_M_travelTo : Cond.selects y_M_travelTo.cls y_M_travelTo y_M_travelTo ∈ TB := tb_mem 45 (by decide +kernel) rfl
theorem mi_M_travelTo : Cond.instanceMethod y_M_travelTo ∈ TB := tb_mem 686 (by decide +kernel) rfl
abbrev b_M_writeFault : ByteArray := prog_6_method_19_code
abbrev y_M_writeFault : MethodName := ⟨"TapeEndsModel", "writeFault", "(III)I"⟩
theorem mc_M_writeFault : Cond.code y_M_writeFault b_M_writeFault 4 (some .int) ∈ TB := tb_mem 592 (by decide +kernel) rfl
theorem ms_M_writeFault : Cond.selects y_M_writeFault.cls y_M_writeFault y_M_writeFault ∈ TB := tb_mem 30 (by decide +kernel) rfl
theorem mi_M_writeFault : Cond.instanceMethod y_M_writeFault ∈ TB := tb_mem 591 (by decide +kernel) rfl
abbrev b_M_writes : ByteArray := prog_6_method_20_code
abbrev y_M_writes : MethodName := ⟨"TapeEndsModel", "writes", "(III)I"⟩
theorem mc_M_writes : Cond.code y_M_writes b_M_writes 5 (some .int) ∈ TB := tb_mem 599 (by decide +kernel) rfl
theorem ms_M_writes : Cond.selects y_M_writes.cls y_M_writes y_M_writes ∈ TB := tb_mem 31 (by decide +kernel) rfl
theorem mi_M_writes : Cond.instanceMethod y_M_writes ∈ TB := tb_mem 598 (by decide +kernel) rfl
abbrev b_M_cutFault : ByteArray := prog_6_method_21_code
abbrev y_M_cutFault : MethodName := ⟨"TapeEndsModel", "cutFault", "(II)I"⟩
theorem mc_M_cutFault : Cond.code y_M_cutFault b_M_cutFault 3 (some .int) ∈ TB := tb_mem 615 (by decide +kernel) rfl
theorem ms_M_cutFault : Cond.selects y_M_cutFault.cls y_M_cutFault y_M_cutFault ∈ TB := tb_mem 33 (by decide +kernel) rfl
theorem mi_M_cutFault : Cond.instanceMethod y_M_cutFault ∈ TB := tb_mem 614 (by decide +kernel) rfl
abbrev b_M_cuts : ByteArray := prog_6_method_22_code
abbrev y_M_cuts : MethodName := ⟨"TapeEndsModel", "cuts", "(II)I"⟩
theorem mc_M_cuts : Cond.code y_M_cuts b_M_cuts 4 (some .int) ∈ TB := tb_mem 619 (by decide +kernel) rfl
theorem ms_M_cuts : Cond.selects y_M_cuts.cls y_M_cuts y_M_cuts ∈ TB := tb_mem 34 (by decide +kernel) rfl
theorem mi_M_cuts : Cond.instanceMethod y_M_cuts ∈ TB := tb_mem 618 (by decide +kernel) rfl
abbrev b_M_moves : ByteArray := prog_6_method_23_code
abbrev y_M_moves : MethodName := ⟨"TapeEndsModel", "moves", "(I)I"⟩
theorem mc_M_moves : Cond.code y_M_moves b_M_moves 3 (some .int) ∈ TB := tb_mem 627 (by decide +kernel) rfl
theorem ms_M_moves : Cond.selects y_M_moves.cls y_M_moves y_M_moves ∈ TB := tb_mem 35 (by decide +kernel) rfl
theorem mi_M_moves : Cond.instanceMethod y_M_moves ∈ TB := tb_mem 626 (by decide +kernel) rfl
abbrev b_M_rewinds : ByteArray := prog_6_method_24_code
abbrev y_M_rewinds : MethodName := ⟨"TapeEndsModel", "rewinds", "()I"⟩
theorem mc_M_rewinds : Cond.code y_M_rewinds b_M_rewinds 1 (some .int) ∈ TB := tb_mem 635 (by decide +kernel) rfl
theorem ms_M_rewinds : Cond.selects y_M_rewinds.cls y_M_rewinds y_M_rewinds ∈ TB := tb_mem 36 (by decide +kernel) rfl
theorem mi_M_rewinds : Cond.instanceMethod y_M_rewinds ∈ TB := tb_mem 634 (by decide +kernel) rfl
abbrev b_M_readFault : ByteArray := prog_6_method_25_code
abbrev y_M_readFault : MethodName := ⟨"TapeEndsModel", "readFault", "(III)I"⟩
theorem mc_M_readFault : Cond.code y_M_readFault b_M_readFault 4 (some .int) ∈ TB := tb_mem 643 (by decide +kernel) rfl
theorem ms_M_readFault : Cond.selects y_M_readFault.cls y_M_readFault y_M_readFault ∈ TB := tb_mem 37 (by decide +kernel) rfl
theorem mi_M_readFault : Cond.instanceMethod y_M_readFault ∈ TB := tb_mem 642 (by decide +kernel) rfl
abbrev b_M_reads : ByteArray := prog_6_method_26_code
abbrev y_M_reads : MethodName := ⟨"TapeEndsModel", "reads", "(III)I"⟩
theorem mc_M_reads : Cond.code y_M_reads b_M_reads 4 (some .int) ∈ TB := tb_mem 651 (by decide +kernel) rfl
theorem ms_M_reads : Cond.selects y_M_reads.cls y_M_reads y_M_reads ∈ TB := tb_mem 39 (by decide +kernel) rfl
theorem mi_M_reads : Cond.instanceMethod y_M_reads ∈ TB := tb_mem 650 (by decide +kernel) rfl
abbrev b_M_length : ByteArray := prog_6_method_27_code
abbrev y_M_length : MethodName := ⟨"TapeEndsModel", "length", "(I)I"⟩
theorem mc_M_length : Cond.code y_M_length b_M_length 3 (some .int) ∈ TB := tb_mem 550 (by decide +kernel) rfl
theorem ms_M_length : Cond.selects y_M_length.cls y_M_length y_M_length ∈ TB := tb_mem 549 (by decide +kernel) rfl
theorem mi_M_length : Cond.instanceMethod y_M_length ∈ TB := tb_mem 548 (by decide +kernel) rfl
abbrev b_M_tune : ByteArray := prog_6_method_28_code
abbrev y_M_tune : MethodName := ⟨"TapeEndsModel", "tune", "(II)I"⟩
theorem mc_M_tune : Cond.code y_M_tune b_M_tune 4 (some .int) ∈ TB := tb_mem 561 (by decide +kernel) rfl
theorem ms_M_tune : Cond.selects y_M_tune.cls y_M_tune y_M_tune ∈ TB := tb_mem 560 (by decide +kernel) rfl
theorem mi_M_tune : Cond.instanceMethod y_M_tune ∈ TB := tb_mem 559 (by decide +kernel) rfl
abbrev b_M_write : ByteArray := prog_6_method_29_code
abbrev y_M_write : MethodName := ⟨"TapeEndsModel", "write", "(III)I"⟩
theorem mc_M_write : Cond.code y_M_write b_M_write 5 (some .int) ∈ TB := tb_mem 588 (by decide +kernel) rfl
theorem ms_M_write : Cond.selects y_M_write.cls y_M_write y_M_write ∈ TB := tb_mem 587 (by decide +kernel) rfl
theorem mi_M_write : Cond.instanceMethod y_M_write ∈ TB := tb_mem 586 (by decide +kernel) rfl
abbrev b_M_cut : ByteArray := prog_6_method_30_code
abbrev y_M_cut : MethodName := ⟨"TapeEndsModel", "cut", "(II)I"⟩
theorem mc_M_cut : Cond.code y_M_cut b_M_cut 4 (some .int) ∈ TB := tb_mem 611 (by decide +kernel) rfl
theorem ms_M_cut : Cond.selects y_M_cut.cls y_M_cut y_M_cut ∈ TB := tb_mem 610 (by decide +kernel) rfl
theorem mi_M_cut : Cond.instanceMethod y_M_cut ∈ TB := tb_mem 609 (by decide +kernel) rfl
abbrev b_M_move : ByteArray := prog_6_method_31_code
abbrev y_M_move : MethodName := ⟨"TapeEndsModel", "move", "(I)I"⟩
theorem mc_M_move : Cond.code y_M_move b_M_move 2 (some .int) ∈ TB := tb_mem 623 (by decide +kernel) rfl
theorem ms_M_move : Cond.selects y_M_move.cls y_M_move y_M_move ∈ TB := tb_mem 622 (by decide +kernel) rfl
theorem mi_M_move : Cond.instanceMethod y_M_move ∈ TB := tb_mem 621 (by decide +kernel) rfl
abbrev b_M_rewind : ByteArray := prog_6_method_32_code
abbrev y_M_rewind : MethodName := ⟨"TapeEndsModel", "rewind", "()I"⟩
theorem mc_M_rewind : Cond.code y_M_rewind b_M_rewind 1 (some .int) ∈ TB := tb_mem 631 (by decide +kernel) rfl
theorem ms_M_rewind : Cond.selects y_M_rewind.cls y_M_rewind y_M_rewind ∈ TB := tb_mem 630 (by decide +kernel) rfl
theorem mi_M_rewind : Cond.instanceMethod y_M_rewind ∈ TB := tb_mem 629 (by decide +kernel) rfl
abbrev b_M_read : ByteArray := prog_6_method_33_code
abbrev y_M_read : MethodName := ⟨"TapeEndsModel", "read", "(III)I"⟩
theorem mc_M_read : Cond.code y_M_read b_M_read 5 (some .int) ∈ TB := tb_mem 639 (by decide +kernel) rfl
theorem ms_M_read : Cond.selects y_M_read.cls y_M_read y_M_read ∈ TB := tb_mem 638 (by decide +kernel) rfl
theorem mi_M_read : Cond.instanceMethod y_M_read ∈ TB := tb_mem 637 (by decide +kernel) rfl
abbrev b_M_within : ByteArray := prog_6_method_34_code
abbrev y_M_within : MethodName := ⟨"TapeEndsModel", "within", "(II)I"⟩
theorem mc_M_within : Cond.code y_M_within b_M_within 7 (some .int) ∈ TB := tb_mem 671 (by decide +kernel) rfl
theorem ms_M_within : Cond.selects y_M_within.cls y_M_within y_M_within ∈ TB := tb_mem 43 (by decide +kernel) rfl
theorem mi_M_within : Cond.instanceMethod y_M_within ∈ TB := tb_mem 670 (by decide +kernel) rfl
abbrev b_M_splice : ByteArray := prog_6_method_35_code
abbrev y_M_splice : MethodName := ⟨"TapeEndsModel", "splice", "(II)I"⟩
theorem mc_M_splice : Cond.code y_M_splice b_M_splice 7 (some .int) ∈ TB := tb_mem 667 (by decide +kernel) rfl
theorem ms_M_splice : Cond.selects y_M_splice.cls y_M_splice y_M_splice ∈ TB := tb_mem 666 (by decide +kernel) rfl
theorem mi_M_splice : Cond.instanceMethod y_M_splice ∈ TB := tb_mem 665 (by decide +kernel) rfl
abbrev b_M_sum : ByteArray := prog_6_method_36_code
abbrev y_M_sum : MethodName := ⟨"TapeEndsModel", "sum", "(II)I"⟩
theorem mc_M_sum : Cond.code y_M_sum b_M_sum 5 (some .int) ∈ TB := tb_mem 679 (by decide +kernel) rfl
theorem ms_M_sum : Cond.selects y_M_sum.cls y_M_sum y_M_sum ∈ TB := tb_mem 44 (by decide +kernel) rfl
theorem mi_M_sum : Cond.instanceMethod y_M_sum ∈ TB := tb_mem 678 (by decide +kernel) rfl
abbrev b_M_ofFile : ByteArray := prog_6_method_37_code
abbrev y_M_ofFile : MethodName := ⟨"TapeEndsModel", "ofFile", "(II)I"⟩
theorem mc_M_ofFile : Cond.code y_M_ofFile b_M_ofFile 3 (some .int) ∈ TB := tb_mem 675 (by decide +kernel) rfl
theorem ms_M_ofFile : Cond.selects y_M_ofFile.cls y_M_ofFile y_M_ofFile ∈ TB := tb_mem 674 (by decide +kernel) rfl
theorem mi_M_ofFile : Cond.instanceMethod y_M_ofFile ∈ TB := tb_mem 673 (by decide +kernel) rfl
abbrev b_M_ofBlock : ByteArray := prog_6_method_38_code
abbrev y_M_ofBlock : MethodName := ⟨"TapeEndsModel", "ofBlock", "(III)I"⟩
theorem mc_M_ofBlock : Cond.code y_M_ofBlock b_M_ofBlock 4 (some .int) ∈ TB := tb_mem 683 (by decide +kernel) rfl
theorem ms_M_ofBlock : Cond.selects y_M_ofBlock.cls y_M_ofBlock y_M_ofBlock ∈ TB := tb_mem 682 (by decide +kernel) rfl
theorem mi_M_ofBlock : Cond.instanceMethod y_M_ofBlock ∈ TB := tb_mem 681 (by decide +kernel) rfl
abbrev b_M_at : ByteArray := prog_6_method_39_code
abbrev y_M_at : MethodName := ⟨"TapeEndsModel", "at", "(I)I"⟩
theorem mc_M_at : Cond.code y_M_at b_M_at 3 (some .int) ∈ TB := tb_mem 691 (by decide +kernel) rfl
theorem ms_M_at : Cond.selects y_M_at.cls y_M_at y_M_at ∈ TB := tb_mem 690 (by decide +kernel) rfl
theorem mi_M_at : Cond.instanceMethod y_M_at ∈ TB := tb_mem 689 (by decide +kernel) rfl
abbrev b_M_count : ByteArray := prog_6_method_40_code
abbrev y_M_count : MethodName := ⟨"TapeEndsModel", "count", "(I)I"⟩
theorem mc_M_count : Cond.code y_M_count b_M_count 2 (some .int) ∈ TB := tb_mem 695 (by decide +kernel) rfl
theorem ms_M_count : Cond.selects y_M_count.cls y_M_count y_M_count ∈ TB := tb_mem 694 (by decide +kernel) rfl
theorem mi_M_count : Cond.instanceMethod y_M_count ∈ TB := tb_mem 693 (by decide +kernel) rfl
abbrev b_M_fits : ByteArray := prog_6_method_41_code
abbrev y_M_fits : MethodName := ⟨"TapeEndsModel", "fits", "(I)I"⟩
theorem mc_M_fits : Cond.code y_M_fits b_M_fits 3 (some .int) ∈ TB := tb_mem 699 (by decide +kernel) rfl
theorem ms_M_fits : Cond.selects y_M_fits.cls y_M_fits y_M_fits ∈ TB := tb_mem 698 (by decide +kernel) rfl
theorem mi_M_fits : Cond.instanceMethod y_M_fits ∈ TB := tb_mem 697 (by decide +kernel) rfl
abbrev b_M_rooms : ByteArray := prog_6_method_42_code
abbrev y_M_rooms : MethodName := ⟨"TapeEndsModel", "rooms", "(I)I"⟩
theorem mc_M_rooms : Cond.code y_M_rooms b_M_rooms 4 (some .int) ∈ TB := tb_mem 703 (by decide +kernel) rfl
theorem ms_M_rooms : Cond.selects y_M_rooms.cls y_M_rooms y_M_rooms ∈ TB := tb_mem 702 (by decide +kernel) rfl
theorem mi_M_rooms : Cond.instanceMethod y_M_rooms ∈ TB := tb_mem 701 (by decide +kernel) rfl
abbrev b_M_nearest : ByteArray := prog_6_method_43_code
abbrev y_M_nearest : MethodName := ⟨"TapeEndsModel", "nearest", "(I)I"⟩
theorem mc_M_nearest : Cond.code y_M_nearest b_M_nearest 9 (some .int) ∈ TB := tb_mem 707 (by decide +kernel) rfl
theorem ms_M_nearest : Cond.selects y_M_nearest.cls y_M_nearest y_M_nearest ∈ TB := tb_mem 706 (by decide +kernel) rfl
theorem mi_M_nearest : Cond.instanceMethod y_M_nearest ∈ TB := tb_mem 705 (by decide +kernel) rfl
abbrev b_M_put : ByteArray := prog_6_method_44_code
abbrev y_M_put : MethodName := ⟨"TapeEndsModel", "put", "(J)I"⟩
theorem mc_M_put : Cond.code y_M_put b_M_put 8 (some .int) ∈ TB := tb_mem 711 (by decide +kernel) rfl
theorem ms_M_put : Cond.selects y_M_put.cls y_M_put y_M_put ∈ TB := tb_mem 710 (by decide +kernel) rfl
theorem mi_M_put : Cond.instanceMethod y_M_put ∈ TB := tb_mem 709 (by decide +kernel) rfl
abbrev b_M_wipe : ByteArray := prog_6_method_45_code
abbrev y_M_wipe : MethodName := ⟨"TapeEndsModel", "wipe", "()I"⟩
theorem mc_M_wipe : Cond.code y_M_wipe b_M_wipe 2 (some .int) ∈ TB := tb_mem 716 (by decide +kernel) rfl
theorem ms_M_wipe : Cond.selects y_M_wipe.cls y_M_wipe y_M_wipe ∈ TB := tb_mem 715 (by decide +kernel) rfl
theorem mi_M_wipe : Cond.instanceMethod y_M_wipe ∈ TB := tb_mem 714 (by decide +kernel) rfl
abbrev b_M_sign : ByteArray := prog_6_method_46_code
abbrev y_M_sign : MethodName := ⟨"TapeEndsModel", "sign", "(II)I"⟩
theorem mc_M_sign : Cond.code y_M_sign b_M_sign 4 (some .int) ∈ TB := tb_mem 732 (by decide +kernel) rfl
theorem ms_M_sign : Cond.selects y_M_sign.cls y_M_sign y_M_sign ∈ TB := tb_mem 48 (by decide +kernel) rfl
theorem mi_M_sign : Cond.instanceMethod y_M_sign ∈ TB := tb_mem 731 (by decide +kernel) rfl
abbrev b_M_isNext : ByteArray := prog_6_method_47_code
abbrev y_M_isNext : MethodName := ⟨"TapeEndsModel", "isNext", "(II)Z"⟩
theorem mc_M_isNext : Cond.code y_M_isNext b_M_isNext 3 (some .boolean) ∈ TB := tb_mem 740 (by decide +kernel) rfl
theorem ms_M_isNext : Cond.selects y_M_isNext.cls y_M_isNext y_M_isNext ∈ TB := tb_mem 50 (by decide +kernel) rfl
theorem mi_M_isNext : Cond.instanceMethod y_M_isNext ∈ TB := tb_mem 739 (by decide +kernel) rfl
abbrev b_M_number : ByteArray := prog_6_method_48_code
abbrev y_M_number : MethodName := ⟨"TapeEndsModel", "number", "()I"⟩
theorem mc_M_number : Cond.code y_M_number b_M_number 3 (some .int) ∈ TB := tb_mem 736 (by decide +kernel) rfl
theorem ms_M_number : Cond.selects y_M_number.cls y_M_number y_M_number ∈ TB := tb_mem 49 (by decide +kernel) rfl
theorem mi_M_number : Cond.instanceMethod y_M_number ∈ TB := tb_mem 735 (by decide +kernel) rfl
abbrev b_M_order : ByteArray := prog_6_method_49_code
abbrev y_M_order : MethodName := ⟨"TapeEndsModel", "order", "()V"⟩
theorem mc_M_order : Cond.code y_M_order b_M_order 4 none ∈ TB := tb_mem 728 (by decide +kernel) rfl
theorem ms_M_order : Cond.selects y_M_order.cls y_M_order y_M_order ∈ TB := tb_mem 47 (by decide +kernel) rfl
theorem mi_M_order : Cond.instanceMethod y_M_order ∈ TB := tb_mem 727 (by decide +kernel) rfl
abbrev b_M_does : ByteArray := prog_6_method_50_code
abbrev y_M_does : MethodName := ⟨"TapeEndsModel", "does", "()Z"⟩
theorem mc_M_does : Cond.code y_M_does b_M_does 4 (some .boolean) ∈ TB := tb_mem 744 (by decide +kernel) rfl
theorem ms_M_does : Cond.selects y_M_does.cls y_M_does y_M_does ∈ TB := tb_mem 51 (by decide +kernel) rfl
theorem mi_M_does : Cond.instanceMethod y_M_does ∈ TB := tb_mem 743 (by decide +kernel) rfl
abbrev b_M_go : ByteArray := prog_6_method_51_code
abbrev y_M_go : MethodName := ⟨"TapeEndsModel", "go", "(Z)I"⟩
theorem mc_M_go : Cond.code y_M_go b_M_go 6 (some .int) ∈ TB := tb_mem 724 (by decide +kernel) rfl
theorem ms_M_go : Cond.selects y_M_go.cls y_M_go y_M_go ∈ TB := tb_mem 46 (by decide +kernel) rfl
theorem mi_M_go : Cond.instanceMethod y_M_go ∈ TB := tb_mem 723 (by decide +kernel) rfl
abbrev b_M_fault : ByteArray := prog_6_method_52_code
abbrev y_M_fault : MethodName := ⟨"TapeEndsModel", "fault", "()I"⟩
theorem mc_M_fault : Cond.code y_M_fault b_M_fault 2 (some .int) ∈ TB := tb_mem 720 (by decide +kernel) rfl
theorem ms_M_fault : Cond.selects y_M_fault.cls y_M_fault y_M_fault ∈ TB := tb_mem 719 (by decide +kernel) rfl
theorem mi_M_fault : Cond.instanceMethod y_M_fault ∈ TB := tb_mem 718 (by decide +kernel) rfl
abbrev b_M_carryOut : ByteArray := prog_6_method_53_code
abbrev y_M_carryOut : MethodName := ⟨"TapeEndsModel", "carryOut", "()I"⟩
theorem mc_M_carryOut : Cond.code y_M_carryOut b_M_carryOut 3 (some .int) ∈ TB := tb_mem 748 (by decide +kernel) rfl
theorem ms_M_carryOut : Cond.selects y_M_carryOut.cls y_M_carryOut y_M_carryOut ∈ TB := tb_mem 747 (by decide +kernel) rfl
theorem mi_M_carryOut : Cond.instanceMethod y_M_carryOut ∈ TB := tb_mem 746 (by decide +kernel) rfl
abbrev b_M_undo : ByteArray := prog_6_method_54_code
abbrev y_M_undo : MethodName := ⟨"TapeEndsModel", "undo", "()I"⟩
theorem mc_M_undo : Cond.code y_M_undo b_M_undo 2 (some .int) ∈ TB := tb_mem 752 (by decide +kernel) rfl
theorem ms_M_undo : Cond.selects y_M_undo.cls y_M_undo y_M_undo ∈ TB := tb_mem 751 (by decide +kernel) rfl
theorem mi_M_undo : Cond.instanceMethod y_M_undo ∈ TB := tb_mem 750 (by decide +kernel) rfl
abbrev b_M_save : ByteArray := prog_6_method_55_code
abbrev y_M_save : MethodName := ⟨"TapeEndsModel", "save", "(I)I"⟩
theorem mc_M_save : Cond.code y_M_save b_M_save 3 (some .int) ∈ TB := tb_mem 756 (by decide +kernel) rfl
theorem ms_M_save : Cond.selects y_M_save.cls y_M_save y_M_save ∈ TB := tb_mem 755 (by decide +kernel) rfl
theorem mi_M_save : Cond.instanceMethod y_M_save ∈ TB := tb_mem 754 (by decide +kernel) rfl
abbrev b_M_restore : ByteArray := prog_6_method_56_code
abbrev y_M_restore : MethodName := ⟨"TapeEndsModel", "restore", "(I)I"⟩
theorem mc_M_restore : Cond.code y_M_restore b_M_restore 3 (some .int) ∈ TB := tb_mem 760 (by decide +kernel) rfl
theorem ms_M_restore : Cond.selects y_M_restore.cls y_M_restore y_M_restore ∈ TB := tb_mem 759 (by decide +kernel) rfl
theorem mi_M_restore : Cond.instanceMethod y_M_restore ∈ TB := tb_mem 758 (by decide +kernel) rfl
abbrev b_R_init : ByteArray := prog_2_method_1_code
abbrev y_R_init : MethodName := ⟨"TapeEnds$OrderReader", "<init>", "(LTapeEnds$Pad;)V"⟩
theorem mc_R_init : Cond.code y_R_init b_R_init 2 none ∈ TB := tb_mem 135 (by decide +kernel) rfl
theorem mi_R_init : Cond.instanceMethod y_R_init ∈ TB := tb_mem 134 (by decide +kernel) rfl
abbrev b_R_startAgain : ByteArray := prog_2_method_2_code
abbrev y_R_startAgain : MethodName := ⟨"TapeEnds$OrderReader", "startAgain", "()V"⟩
theorem mc_R_startAgain : Cond.code y_R_startAgain b_R_startAgain 1 none ∈ TB := tb_mem 430 (by decide +kernel) rfl
theorem ms_R_startAgain : Cond.selects y_R_startAgain.cls y_R_startAgain y_R_startAgain ∈ TB := tb_mem 429 (by decide +kernel) rfl
theorem mi_R_startAgain : Cond.instanceMethod y_R_startAgain ∈ TB := tb_mem 428 (by decide +kernel) rfl
abbrev b_R_hasMore : ByteArray := prog_2_method_3_code
abbrev y_R_hasMore : MethodName := ⟨"TapeEnds$OrderReader", "hasMore", "()Z"⟩
theorem mc_R_hasMore : Cond.code y_R_hasMore b_R_hasMore 1 (some .boolean) ∈ TB := tb_mem 466 (by decide +kernel) rfl
theorem ms_R_hasMore : Cond.selects y_R_hasMore.cls y_R_hasMore y_R_hasMore ∈ TB := tb_mem 465 (by decide +kernel) rfl
theorem mi_R_hasMore : Cond.instanceMethod y_R_hasMore ∈ TB := tb_mem 464 (by decide +kernel) rfl
abbrev b_R_faultPosition : ByteArray := prog_2_method_4_code
abbrev y_R_faultPosition : MethodName := ⟨"TapeEnds$OrderReader", "faultPosition", "()I"⟩
theorem mc_R_faultPosition : Cond.code y_R_faultPosition b_R_faultPosition 2 (some .int) ∈ TB := tb_mem 426 (by decide +kernel) rfl
theorem ms_R_faultPosition : Cond.selects y_R_faultPosition.cls y_R_faultPosition y_R_faultPosition ∈ TB := tb_mem 425 (by decide +kernel) rfl
theorem mi_R_faultPosition : Cond.instanceMethod y_R_faultPosition ∈ TB := tb_mem 424 (by decide +kernel) rfl
abbrev b_R_readNext : ByteArray := prog_2_method_5_code
abbrev y_R_readNext : MethodName := ⟨"TapeEnds$OrderReader", "readNext", "()V"⟩
theorem mc_R_readNext : Cond.code y_R_readNext b_R_readNext 1 none ∈ TB := tb_mem 434 (by decide +kernel) rfl
theorem ms_R_readNext : Cond.selects y_R_readNext.cls y_R_readNext y_R_readNext ∈ TB := tb_mem 433 (by decide +kernel) rfl
theorem mi_R_readNext : Cond.instanceMethod y_R_readNext ∈ TB := tb_mem 432 (by decide +kernel) rfl
abbrev b_R_carryOutOn : ByteArray := prog_2_method_6_code
abbrev y_R_carryOutOn : MethodName := ⟨"TapeEnds$OrderReader", "carryOutOn", "(LTapeEnds$Tape;)I"⟩
theorem mc_R_carryOutOn : Cond.code y_R_carryOutOn b_R_carryOutOn 2 (some .int) ∈ TB := tb_mem 482 (by decide +kernel) rfl
theorem ms_R_carryOutOn : Cond.selects y_R_carryOutOn.cls y_R_carryOutOn y_R_carryOutOn ∈ TB := tb_mem 481 (by decide +kernel) rfl
theorem mi_R_carryOutOn : Cond.instanceMethod y_R_carryOutOn ∈ TB := tb_mem 480 (by decide +kernel) rfl
abbrev b_R_readOrder : ByteArray := prog_2_method_7_code
abbrev y_R_readOrder : MethodName := ⟨"TapeEnds$OrderReader", "readOrder", "()V"⟩
theorem mc_R_readOrder : Cond.code y_R_readOrder b_R_readOrder 1 none ∈ TB := tb_mem 450 (by decide +kernel) rfl
theorem ms_R_readOrder : Cond.selects y_R_readOrder.cls y_R_readOrder y_R_readOrder ∈ TB := tb_mem 19 (by decide +kernel) rfl
theorem mi_R_readOrder : Cond.instanceMethod y_R_readOrder ∈ TB := tb_mem 449 (by decide +kernel) rfl
abbrev b_R_readFile : ByteArray := prog_2_method_8_code
abbrev y_R_readFile : MethodName := ⟨"TapeEnds$OrderReader", "readFile", "(C)V"⟩
theorem mc_R_readFile : Cond.code y_R_readFile b_R_readFile 2 none ∈ TB := tb_mem 454 (by decide +kernel) rfl
theorem ms_R_readFile : Cond.selects y_R_readFile.cls y_R_readFile y_R_readFile ∈ TB := tb_mem 20 (by decide +kernel) rfl
theorem mi_R_readFile : Cond.instanceMethod y_R_readFile ∈ TB := tb_mem 453 (by decide +kernel) rfl
abbrev b_R_readNumber : ByteArray := prog_2_method_9_code
abbrev y_R_readNumber : MethodName := ⟨"TapeEnds$OrderReader", "readNumber", "()I"⟩
theorem mc_R_readNumber : Cond.code y_R_readNumber b_R_readNumber 3 (some .int) ∈ TB := tb_mem 458 (by decide +kernel) rfl
theorem ms_R_readNumber : Cond.selects y_R_readNumber.cls y_R_readNumber y_R_readNumber ∈ TB := tb_mem 21 (by decide +kernel) rfl
theorem mi_R_readNumber : Cond.instanceMethod y_R_readNumber ∈ TB := tb_mem 457 (by decide +kernel) rfl
abbrev b_R_isDigitNext : ByteArray := prog_2_method_10_code
abbrev y_R_isDigitNext : MethodName := ⟨"TapeEnds$OrderReader", "isDigitNext", "()Z"⟩
theorem mc_R_isDigitNext : Cond.code y_R_isDigitNext b_R_isDigitNext 2 (some .boolean) ∈ TB := tb_mem 462 (by decide +kernel) rfl
theorem ms_R_isDigitNext : Cond.selects y_R_isDigitNext.cls y_R_isDigitNext y_R_isDigitNext ∈ TB := tb_mem 22 (by decide +kernel) rfl
theorem mi_R_isDigitNext : Cond.instanceMethod y_R_isDigitNext ∈ TB := tb_mem 461 (by decide +kernel) rfl
abbrev b_R_passIfThere : ByteArray := prog_2_method_11_code
abbrev y_R_passIfThere : MethodName := ⟨"TapeEnds$OrderReader", "passIfThere", "(C)Z"⟩
theorem mc_R_passIfThere : Cond.code y_R_passIfThere b_R_passIfThere 2 (some .boolean) ∈ TB := tb_mem 442 (by decide +kernel) rfl
theorem ms_R_passIfThere : Cond.selects y_R_passIfThere.cls y_R_passIfThere y_R_passIfThere ∈ TB := tb_mem 18 (by decide +kernel) rfl
theorem mi_R_passIfThere : Cond.instanceMethod y_R_passIfThere ∈ TB := tb_mem 441 (by decide +kernel) rfl
abbrev b_R_pass : ByteArray := prog_2_method_12_code
abbrev y_R_pass : MethodName := ⟨"TapeEnds$OrderReader", "pass", "(C)V"⟩
theorem mc_R_pass : Cond.code y_R_pass b_R_pass 2 none ∈ TB := tb_mem 438 (by decide +kernel) rfl
theorem ms_R_pass : Cond.selects y_R_pass.cls y_R_pass y_R_pass ∈ TB := tb_mem 17 (by decide +kernel) rfl
theorem mi_R_pass : Cond.instanceMethod y_R_pass ∈ TB := tb_mem 437 (by decide +kernel) rfl
abbrev b_P_init : ByteArray := prog_3_method_1_code
abbrev y_P_init : MethodName := ⟨"TapeEnds$Pad", "<init>", "()V"⟩
theorem mc_P_init : Cond.code y_P_init b_P_init 1 none ∈ TB := tb_mem 120 (by decide +kernel) rfl
theorem mi_P_init : Cond.instanceMethod y_P_init ∈ TB := tb_mem 119 (by decide +kernel) rfl
abbrev b_P_size : ByteArray := prog_3_method_2_code
abbrev y_P_size : MethodName := ⟨"TapeEnds$Pad", "size", "()I"⟩
theorem mc_P_size : Cond.code y_P_size b_P_size 1 (some .int) ∈ TB := tb_mem 367 (by decide +kernel) rfl
theorem ms_P_size : Cond.selects y_P_size.cls y_P_size y_P_size ∈ TB := tb_mem 366 (by decide +kernel) rfl
theorem mi_P_size : Cond.instanceMethod y_P_size ∈ TB := tb_mem 365 (by decide +kernel) rfl
abbrev b_P_characterAt : ByteArray := prog_3_method_3_code
abbrev y_P_characterAt : MethodName := ⟨"TapeEnds$Pad", "characterAt", "(I)C"⟩
theorem mc_P_characterAt : Cond.code y_P_characterAt b_P_characterAt 2 (some .char) ∈ TB := tb_mem 446 (by decide +kernel) rfl
theorem ms_P_characterAt : Cond.selects y_P_characterAt.cls y_P_characterAt y_P_characterAt ∈ TB := tb_mem 445 (by decide +kernel) rfl
theorem mi_P_characterAt : Cond.instanceMethod y_P_characterAt ∈ TB := tb_mem 444 (by decide +kernel) rfl
abbrev b_P_append : ByteArray := prog_3_method_4_code
abbrev y_P_append : MethodName := ⟨"TapeEnds$Pad", "append", "(J)I"⟩
theorem mc_P_append : Cond.code y_P_append b_P_append 5 (some .int) ∈ TB := tb_mem 403 (by decide +kernel) rfl
theorem ms_P_append : Cond.selects y_P_append.cls y_P_append y_P_append ∈ TB := tb_mem 402 (by decide +kernel) rfl
theorem mi_P_append : Cond.instanceMethod y_P_append ∈ TB := tb_mem 401 (by decide +kernel) rfl
abbrev b_P_clear : ByteArray := prog_3_method_5_code
abbrev y_P_clear : MethodName := ⟨"TapeEnds$Pad", "clear", "()I"⟩
theorem mc_P_clear : Cond.code y_P_clear b_P_clear 2 (some .int) ∈ TB := tb_mem 418 (by decide +kernel) rfl
theorem ms_P_clear : Cond.selects y_P_clear.cls y_P_clear y_P_clear ∈ TB := tb_mem 417 (by decide +kernel) rfl
theorem mi_P_clear : Cond.instanceMethod y_P_clear ∈ TB := tb_mem 416 (by decide +kernel) rfl
abbrev b_P_charactersIn : ByteArray := prog_3_method_6_code
abbrev y_P_charactersIn : MethodName := ⟨"TapeEnds$Pad", "charactersIn", "(J)I"⟩
theorem mc_P_charactersIn : Cond.code y_P_charactersIn b_P_charactersIn 8 (some .int) ∈ TB := tb_mem 407 (by decide +kernel) rfl
theorem ms_P_charactersIn : Cond.selects y_P_charactersIn.cls y_P_charactersIn y_P_charactersIn ∈ TB := tb_mem 16 (by decide +kernel) rfl
theorem mi_P_charactersIn : Cond.instanceMethod y_P_charactersIn ∈ TB := tb_mem 406 (by decide +kernel) rfl
abbrev b_T_init : ByteArray := prog_4_method_1_code
abbrev y_T_init : MethodName := ⟨"TapeEnds$Tape", "<init>", "()V"⟩
theorem mc_T_init : Cond.code y_T_init b_T_init 1 none ∈ TB := tb_mem 72 (by decide +kernel) rfl
theorem mi_T_init : Cond.instanceMethod y_T_init ∈ TB := tb_mem 71 (by decide +kernel) rfl
abbrev b_T_copyFrom : ByteArray := prog_4_method_2_code
abbrev y_T_copyFrom : MethodName := ⟨"TapeEnds$Tape", "copyFrom", "(LTapeEnds$Tape;)V"⟩
theorem mc_T_copyFrom : Cond.code y_T_copyFrom b_T_copyFrom 2 none ∈ TB := tb_mem 194 (by decide +kernel) rfl
theorem ms_T_copyFrom : Cond.selects y_T_copyFrom.cls y_T_copyFrom y_T_copyFrom ∈ TB := tb_mem 193 (by decide +kernel) rfl
theorem mi_T_copyFrom : Cond.instanceMethod y_T_copyFrom ∈ TB := tb_mem 192 (by decide +kernel) rfl
abbrev b_T_setFeet : ByteArray := prog_4_method_3_code
abbrev y_T_setFeet : MethodName := ⟨"TapeEnds$Tape", "setFeet", "(I)I"⟩
theorem mc_T_setFeet : Cond.code y_T_setFeet b_T_setFeet 3 (some .int) ∈ TB := tb_mem 201 (by decide +kernel) rfl
theorem ms_T_setFeet : Cond.selects y_T_setFeet.cls y_T_setFeet y_T_setFeet ∈ TB := tb_mem 200 (by decide +kernel) rfl
theorem mi_T_setFeet : Cond.instanceMethod y_T_setFeet ∈ TB := tb_mem 199 (by decide +kernel) rfl
abbrev b_T_setGapAndMark : ByteArray := prog_4_method_4_code
abbrev y_T_setGapAndMark : MethodName := ⟨"TapeEnds$Tape", "setGapAndMark", "(II)I"⟩
theorem mc_T_setGapAndMark : Cond.code y_T_setGapAndMark b_T_setGapAndMark 4 (some .int) ∈ TB := tb_mem 224 (by decide +kernel) rfl
theorem ms_T_setGapAndMark : Cond.selects y_T_setGapAndMark.cls y_T_setGapAndMark y_T_setGapAndMark ∈ TB := tb_mem 223 (by decide +kernel) rfl
theorem mi_T_setGapAndMark : Cond.instanceMethod y_T_setGapAndMark ∈ TB := tb_mem 222 (by decide +kernel) rfl
abbrev b_T_addBlock : ByteArray := prog_4_method_5_code
abbrev y_T_addBlock : MethodName := ⟨"TapeEnds$Tape", "addBlock", "(III)I"⟩
theorem mc_T_addBlock : Cond.code y_T_addBlock b_T_addBlock 6 (some .int) ∈ TB := tb_mem 248 (by decide +kernel) rfl
theorem ms_T_addBlock : Cond.selects y_T_addBlock.cls y_T_addBlock y_T_addBlock ∈ TB := tb_mem 247 (by decide +kernel) rfl
theorem mi_T_addBlock : Cond.instanceMethod y_T_addBlock ∈ TB := tb_mem 246 (by decide +kernel) rfl
abbrev b_T_keepBlocks : ByteArray := prog_4_method_6_code
abbrev y_T_keepBlocks : MethodName := ⟨"TapeEnds$Tape", "keepBlocks", "(II)I"⟩
theorem mc_T_keepBlocks : Cond.code y_T_keepBlocks b_T_keepBlocks 4 (some .int) ∈ TB := tb_mem 272 (by decide +kernel) rfl
theorem ms_T_keepBlocks : Cond.selects y_T_keepBlocks.cls y_T_keepBlocks y_T_keepBlocks ∈ TB := tb_mem 271 (by decide +kernel) rfl
theorem mi_T_keepBlocks : Cond.instanceMethod y_T_keepBlocks ∈ TB := tb_mem 270 (by decide +kernel) rfl
abbrev b_T_moveHead : ByteArray := prog_4_method_7_code
abbrev y_T_moveHead : MethodName := ⟨"TapeEnds$Tape", "moveHead", "(I)I"⟩
theorem mc_T_moveHead : Cond.code y_T_moveHead b_T_moveHead 2 (some .int) ∈ TB := tb_mem 280 (by decide +kernel) rfl
theorem ms_T_moveHead : Cond.selects y_T_moveHead.cls y_T_moveHead y_T_moveHead ∈ TB := tb_mem 279 (by decide +kernel) rfl
theorem mi_T_moveHead : Cond.instanceMethod y_T_moveHead ∈ TB := tb_mem 278 (by decide +kernel) rfl
abbrev b_T_goToNearerEnd : ByteArray := prog_4_method_8_code
abbrev y_T_goToNearerEnd : MethodName := ⟨"TapeEnds$Tape", "goToNearerEnd", "()I"⟩
theorem mc_T_goToNearerEnd : Cond.code y_T_goToNearerEnd b_T_goToNearerEnd 1 (some .int) ∈ TB := tb_mem 288 (by decide +kernel) rfl
theorem ms_T_goToNearerEnd : Cond.selects y_T_goToNearerEnd.cls y_T_goToNearerEnd y_T_goToNearerEnd ∈ TB := tb_mem 287 (by decide +kernel) rfl
theorem mi_T_goToNearerEnd : Cond.instanceMethod y_T_goToNearerEnd ∈ TB := tb_mem 286 (by decide +kernel) rfl
abbrev b_T_passBlock : ByteArray := prog_4_method_9_code
abbrev y_T_passBlock : MethodName := ⟨"TapeEnds$Tape", "passBlock", "(III)I"⟩
theorem mc_T_passBlock : Cond.code y_T_passBlock b_T_passBlock 5 (some .int) ∈ TB := tb_mem 296 (by decide +kernel) rfl
theorem ms_T_passBlock : Cond.selects y_T_passBlock.cls y_T_passBlock y_T_passBlock ∈ TB := tb_mem 295 (by decide +kernel) rfl
theorem mi_T_passBlock : Cond.instanceMethod y_T_passBlock ∈ TB := tb_mem 294 (by decide +kernel) rfl
abbrev b_T_takeOut : ByteArray := prog_4_method_10_code
abbrev y_T_takeOut : MethodName := ⟨"TapeEnds$Tape", "takeOut", "(II)I"⟩
theorem mc_T_takeOut : Cond.code y_T_takeOut b_T_takeOut 7 (some .int) ∈ TB := tb_mem 316 (by decide +kernel) rfl
theorem ms_T_takeOut : Cond.selects y_T_takeOut.cls y_T_takeOut y_T_takeOut ∈ TB := tb_mem 315 (by decide +kernel) rfl
theorem mi_T_takeOut : Cond.instanceMethod y_T_takeOut ∈ TB := tb_mem 314 (by decide +kernel) rfl
abbrev b_T_travelTo : ByteArray := prog_4_method_11_code
abbrev y_T_travelTo : MethodName := ⟨"TapeEnds$Tape", "travelTo", "(I)I"⟩
theorem mc_T_travelTo : Cond.code y_T_travelTo b_T_travelTo 3 (some .int) ∈ TB := tb_mem 260 (by decide +kernel) rfl
theorem ms_T_travelTo : Cond.selects y_T_travelTo.cls y_T_travelTo y_T_travelTo ∈ TB := tb_mem 8 (by decide +kernel) rfl
theorem mi_T_travelTo : Cond.instanceMethod y_T_travelTo ∈ TB := tb_mem 259 (by decide +kernel) rfl
abbrev b_T_aboutTape : ByteArray := prog_4_method_12_code
abbrev y_T_aboutTape : MethodName := ⟨"TapeEnds$Tape", "aboutTape", "(I)I"⟩
theorem mc_T_aboutTape : Cond.code y_T_aboutTape b_T_aboutTape 2 (some .int) ∈ TB := tb_mem 371 (by decide +kernel) rfl
theorem ms_T_aboutTape : Cond.selects y_T_aboutTape.cls y_T_aboutTape y_T_aboutTape ∈ TB := tb_mem 370 (by decide +kernel) rfl
theorem mi_T_aboutTape : Cond.instanceMethod y_T_aboutTape ∈ TB := tb_mem 369 (by decide +kernel) rfl
abbrev b_T_aboutFile : ByteArray := prog_4_method_13_code
abbrev y_T_aboutFile : MethodName := ⟨"TapeEnds$Tape", "aboutFile", "(II)I"⟩
theorem mc_T_aboutFile : Cond.code y_T_aboutFile b_T_aboutFile 3 (some .int) ∈ TB := tb_mem 335 (by decide +kernel) rfl
theorem ms_T_aboutFile : Cond.selects y_T_aboutFile.cls y_T_aboutFile y_T_aboutFile ∈ TB := tb_mem 334 (by decide +kernel) rfl
theorem mi_T_aboutFile : Cond.instanceMethod y_T_aboutFile ∈ TB := tb_mem 333 (by decide +kernel) rfl
abbrev b_T_aboutBlock : ByteArray := prog_4_method_14_code
abbrev y_T_aboutBlock : MethodName := ⟨"TapeEnds$Tape", "aboutBlock", "(III)I"⟩
theorem mc_T_aboutBlock : Cond.code y_T_aboutBlock b_T_aboutBlock 5 (some .int) ∈ TB := tb_mem 347 (by decide +kernel) rfl
theorem ms_T_aboutBlock : Cond.selects y_T_aboutBlock.cls y_T_aboutBlock y_T_aboutBlock ∈ TB := tb_mem 346 (by decide +kernel) rfl
theorem mi_T_aboutBlock : Cond.instanceMethod y_T_aboutBlock ∈ TB := tb_mem 345 (by decide +kernel) rfl
abbrev b_T_kindOfFoot : ByteArray := prog_4_method_15_code
abbrev y_T_kindOfFoot : MethodName := ⟨"TapeEnds$Tape", "kindOfFoot", "(I)I"⟩
theorem mc_T_kindOfFoot : Cond.code y_T_kindOfFoot b_T_kindOfFoot 3 (some .int) ∈ TB := tb_mem 359 (by decide +kernel) rfl
theorem ms_T_kindOfFoot : Cond.selects y_T_kindOfFoot.cls y_T_kindOfFoot y_T_kindOfFoot ∈ TB := tb_mem 358 (by decide +kernel) rfl
theorem mi_T_kindOfFoot : Cond.instanceMethod y_T_kindOfFoot ∈ TB := tb_mem 357 (by decide +kernel) rfl
abbrev b_T_allBlocks : ByteArray := prog_4_method_16_code
abbrev y_T_allBlocks : MethodName := ⟨"TapeEnds$Tape", "allBlocks", "()I"⟩
theorem mc_T_allBlocks : Cond.code y_T_allBlocks b_T_allBlocks 1 (some .int) ∈ TB := tb_mem 205 (by decide +kernel) rfl
theorem ms_T_allBlocks : Cond.selects y_T_allBlocks.cls y_T_allBlocks y_T_allBlocks ∈ TB := tb_mem 204 (by decide +kernel) rfl
theorem mi_T_allBlocks : Cond.instanceMethod y_T_allBlocks ∈ TB := tb_mem 203 (by decide +kernel) rfl
abbrev b_T_greatestData : ByteArray := prog_4_method_17_code
abbrev y_T_greatestData : MethodName := ⟨"TapeEnds$Tape", "greatestData", "(I)I"⟩
theorem mc_T_greatestData : Cond.code y_T_greatestData b_T_greatestData 2 (some .int) ∈ TB := tb_mem 379 (by decide +kernel) rfl
theorem ms_T_greatestData : Cond.selects y_T_greatestData.cls y_T_greatestData y_T_greatestData ∈ TB := tb_mem 378 (by decide +kernel) rfl
theorem mi_T_greatestData : Cond.instanceMethod y_T_greatestData ∈ TB := tb_mem 377 (by decide +kernel) rfl
abbrev b_T_blocksThatFit : ByteArray := prog_4_method_18_code
abbrev y_T_blocksThatFit : MethodName := ⟨"TapeEnds$Tape", "blocksThatFit", "(I)I"⟩
theorem mc_T_blocksThatFit : Cond.code y_T_blocksThatFit b_T_blocksThatFit 3 (some .int) ∈ TB := tb_mem 387 (by decide +kernel) rfl
theorem ms_T_blocksThatFit : Cond.selects y_T_blocksThatFit.cls y_T_blocksThatFit y_T_blocksThatFit ∈ TB := tb_mem 386 (by decide +kernel) rfl
theorem mi_T_blocksThatFit : Cond.instanceMethod y_T_blocksThatFit ∈ TB := tb_mem 385 (by decide +kernel) rfl
abbrev b_T_aboutNearest : ByteArray := prog_4_method_19_code
abbrev y_T_aboutNearest : MethodName := ⟨"TapeEnds$Tape", "aboutNearest", "(I)I"⟩
theorem mc_T_aboutNearest : Cond.code y_T_aboutNearest b_T_aboutNearest 8 (some .int) ∈ TB := tb_mem 395 (by decide +kernel) rfl
theorem ms_T_aboutNearest : Cond.selects y_T_aboutNearest.cls y_T_aboutNearest y_T_aboutNearest ∈ TB := tb_mem 394 (by decide +kernel) rfl
theorem mi_T_aboutNearest : Cond.instanceMethod y_T_aboutNearest ∈ TB := tb_mem 393 (by decide +kernel) rfl
abbrev b_T_isFile : ByteArray := prog_4_method_20_code
abbrev y_T_isFile : MethodName := ⟨"TapeEnds$Tape", "isFile", "(I)Z"⟩
theorem mc_T_isFile : Cond.code y_T_isFile b_T_isFile 2 (some .boolean) ∈ TB := tb_mem 252 (by decide +kernel) rfl
theorem ms_T_isFile : Cond.selects y_T_isFile.cls y_T_isFile y_T_isFile ∈ TB := tb_mem 6 (by decide +kernel) rfl
theorem mi_T_isFile : Cond.instanceMethod y_T_isFile ∈ TB := tb_mem 251 (by decide +kernel) rfl
abbrev b_T_isBlock : ByteArray := prog_4_method_21_code
abbrev y_T_isBlock : MethodName := ⟨"TapeEnds$Tape", "isBlock", "(II)Z"⟩
theorem mc_T_isBlock : Cond.code y_T_isBlock b_T_isBlock 3 (some .boolean) ∈ TB := tb_mem 300 (by decide +kernel) rfl
theorem ms_T_isBlock : Cond.selects y_T_isBlock.cls y_T_isBlock y_T_isBlock ∈ TB := tb_mem 9 (by decide +kernel) rfl
theorem mi_T_isBlock : Cond.instanceMethod y_T_isBlock ∈ TB := tb_mem 299 (by decide +kernel) rfl
abbrev b_T_rowOf : ByteArray := prog_4_method_22_code
abbrev y_T_rowOf : MethodName := ⟨"TapeEnds$Tape", "rowOf", "(II)I"⟩
theorem mc_T_rowOf : Cond.code y_T_rowOf b_T_rowOf 3 (some .int) ∈ TB := tb_mem 236 (by decide +kernel) rfl
theorem ms_T_rowOf : Cond.selects y_T_rowOf.cls y_T_rowOf y_T_rowOf ∈ TB := tb_mem 4 (by decide +kernel) rfl
theorem mi_T_rowOf : Cond.instanceMethod y_T_rowOf ∈ TB := tb_mem 235 (by decide +kernel) rfl
abbrev b_T_wholeLength : ByteArray := prog_4_method_23_code
abbrev y_T_wholeLength : MethodName := ⟨"TapeEnds$Tape", "wholeLength", "(I)I"⟩
theorem mc_T_wholeLength : Cond.code y_T_wholeLength b_T_wholeLength 2 (some .int) ∈ TB := tb_mem 240 (by decide +kernel) rfl
theorem ms_T_wholeLength : Cond.selects y_T_wholeLength.cls y_T_wholeLength y_T_wholeLength ∈ TB := tb_mem 5 (by decide +kernel) rfl
theorem mi_T_wholeLength : Cond.instanceMethod y_T_wholeLength ∈ TB := tb_mem 239 (by decide +kernel) rfl
abbrev b_T_totalOf : ByteArray := prog_4_method_24_code
abbrev y_T_totalOf : MethodName := ⟨"TapeEnds$Tape", "totalOf", "([II)I"⟩
theorem mc_T_totalOf : Cond.code y_T_totalOf b_T_totalOf 5 (some .int) ∈ TB := tb_mem 339 (by decide +kernel) rfl
theorem ms_T_totalOf : Cond.selects y_T_totalOf.cls y_T_totalOf y_T_totalOf ∈ TB := tb_mem 14 (by decide +kernel) rfl
theorem mi_T_totalOf : Cond.instanceMethod y_T_totalOf ∈ TB := tb_mem 338 (by decide +kernel) rfl
abbrev b_T_feetOfFirst : ByteArray := prog_4_method_25_code
abbrev y_T_feetOfFirst : MethodName := ⟨"TapeEnds$Tape", "feetOfFirst", "(II)I"⟩
theorem mc_T_feetOfFirst : Cond.code y_T_feetOfFirst b_T_feetOfFirst 5 (some .int) ∈ TB := tb_mem 232 (by decide +kernel) rfl
theorem ms_T_feetOfFirst : Cond.selects y_T_feetOfFirst.cls y_T_feetOfFirst y_T_feetOfFirst ∈ TB := tb_mem 3 (by decide +kernel) rfl
theorem mi_T_feetOfFirst : Cond.instanceMethod y_T_feetOfFirst ∈ TB := tb_mem 231 (by decide +kernel) rfl
abbrev b_T_gap : ByteArray := prog_4_method_26_code
abbrev y_T_gap : MethodName := ⟨"TapeEnds$Tape", "gap", "()I"⟩
theorem mc_T_gap : Cond.code y_T_gap b_T_gap 1 (some .int) ∈ TB := tb_mem 228 (by decide +kernel) rfl
theorem ms_T_gap : Cond.selects y_T_gap.cls y_T_gap y_T_gap ∈ TB := tb_mem 2 (by decide +kernel) rfl
theorem mi_T_gap : Cond.instanceMethod y_T_gap ∈ TB := tb_mem 227 (by decide +kernel) rfl
abbrev b_T_endInGap : ByteArray := prog_4_method_27_code
abbrev y_T_endInGap : MethodName := ⟨"TapeEnds$Tape", "endInGap", "(I)I"⟩
theorem mc_T_endInGap : Cond.code y_T_endInGap b_T_endInGap 3 (some .int) ∈ TB := tb_mem 256 (by decide +kernel) rfl
theorem ms_T_endInGap : Cond.selects y_T_endInGap.cls y_T_endInGap y_T_endInGap ∈ TB := tb_mem 7 (by decide +kernel) rfl
theorem mi_T_endInGap : Cond.instanceMethod y_T_endInGap ∈ TB := tb_mem 255 (by decide +kernel) rfl
abbrev b_T_isInGap : ByteArray := prog_4_method_28_code
abbrev y_T_isInGap : MethodName := ⟨"TapeEnds$Tape", "isInGap", "(II)Z"⟩
theorem mc_T_isInGap : Cond.code y_T_isInGap b_T_isInGap 3 (some .boolean) ∈ TB := tb_mem 324 (by decide +kernel) rfl
theorem ms_T_isInGap : Cond.selects y_T_isInGap.cls y_T_isInGap y_T_isInGap ∈ TB := tb_mem 13 (by decide +kernel) rfl
theorem mi_T_isInGap : Cond.instanceMethod y_T_isInGap ∈ TB := tb_mem 323 (by decide +kernel) rfl
abbrev b_T_lowerEnd : ByteArray := prog_4_method_29_code
abbrev y_T_lowerEnd : MethodName := ⟨"TapeEnds$Tape", "lowerEnd", "(II)I"⟩
theorem mc_T_lowerEnd : Cond.code y_T_lowerEnd b_T_lowerEnd 3 (some .int) ∈ TB := tb_mem 308 (by decide +kernel) rfl
theorem ms_T_lowerEnd : Cond.selects y_T_lowerEnd.cls y_T_lowerEnd y_T_lowerEnd ∈ TB := tb_mem 11 (by decide +kernel) rfl
theorem mi_T_lowerEnd : Cond.instanceMethod y_T_lowerEnd ∈ TB := tb_mem 307 (by decide +kernel) rfl
abbrev b_T_startOfReading : ByteArray := prog_4_method_30_code
abbrev y_T_startOfReading : MethodName := ⟨"TapeEnds$Tape", "startOfReading", "(III)I"⟩
theorem mc_T_startOfReading : Cond.code y_T_startOfReading b_T_startOfReading 5 (some .int) ∈ TB := tb_mem 304 (by decide +kernel) rfl
theorem ms_T_startOfReading : Cond.selects y_T_startOfReading.cls y_T_startOfReading y_T_startOfReading ∈ TB := tb_mem 10 (by decide +kernel) rfl
theorem mi_T_startOfReading : Cond.instanceMethod y_T_startOfReading ∈ TB := tb_mem 303 (by decide +kernel) rfl
abbrev b_T_travelToRead : ByteArray := prog_4_method_31_code
abbrev y_T_travelToRead : MethodName := ⟨"TapeEnds$Tape", "travelToRead", "(III)I"⟩
theorem mc_T_travelToRead : Cond.code y_T_travelToRead b_T_travelToRead 4 (some .int) ∈ TB := tb_mem 351 (by decide +kernel) rfl
theorem ms_T_travelToRead : Cond.selects y_T_travelToRead.cls y_T_travelToRead y_T_travelToRead ∈ TB := tb_mem 15 (by decide +kernel) rfl
theorem mi_T_travelToRead : Cond.instanceMethod y_T_travelToRead ∈ TB := tb_mem 350 (by decide +kernel) rfl
abbrev b_T_rowWithData : ByteArray := prog_4_method_32_code
abbrev y_T_rowWithData : MethodName := ⟨"TapeEnds$Tape", "rowWithData", "(II)I"⟩
theorem mc_T_rowWithData : Cond.code y_T_rowWithData b_T_rowWithData 7 (some .int) ∈ TB := tb_mem 320 (by decide +kernel) rfl
theorem ms_T_rowWithData : Cond.selects y_T_rowWithData.cls y_T_rowWithData y_T_rowWithData ∈ TB := tb_mem 12 (by decide +kernel) rfl
theorem mi_T_rowWithData : Cond.instanceMethod y_T_rowWithData ∈ TB := tb_mem 319 (by decide +kernel) rfl
theorem k_L_9 : CI "TapeEndsLaw" 9 y_E_init b_E_init 2 0 := ⟨rfl, tb_mem 62 (by decide +kernel) rfl, mi_E_init, in_E, mc_E_init, by decide +kernel, by decide +kernel, by decide +kernel⟩
theorem kx_E_1 : Cond.methodLink "TapeEnds" 1 ⟨"java/lang/Object", "<init>", "()V"⟩ ∈ TB := tb_mem 65 (by decide +kernel) rfl
theorem xi_Object_init : Cond.instanceMethod ({ cls := "java/lang/Object", name := "<init>", desc := "()V" } : MethodName) ∈ TB := tb_mem 66 (by decide +kernel) rfl
theorem xc_Object_init : Cond.code ({ cls := "java/lang/Object", name := "<init>", desc := "()V" } : MethodName) object_method_1_code (1 : Nat) (Option.none : Option FieldType) ∈ TB := tb_mem 67 (by decide +kernel) rfl
theorem k_E_9 : CI "TapeEnds" 9 y_T_init b_T_init 1 0 := ⟨rfl, tb_mem 70 (by decide +kernel) rfl, mi_T_init, in_T, mc_T_init, by decide +kernel, by decide +kernel, by decide +kernel⟩
theorem kx_T_3 : Cond.methodLink "TapeEnds$Tape" 3 ⟨"java/lang/Object", "<init>", "()V"⟩ ∈ TB := tb_mem 73 (by decide +kernel) rfl
theorem k_E_32 : CI "TapeEnds" 32 y_P_init b_P_init 1 0 := ⟨rfl, tb_mem 118 (by decide +kernel) rfl, mi_P_init, in_P, mc_P_init, by decide +kernel, by decide +kernel, by decide +kernel⟩
theorem kx_P_3 : Cond.methodLink "TapeEnds$Pad" 3 ⟨"java/lang/Object", "<init>", "()V"⟩ ∈ TB := tb_mem 121 (by decide +kernel) rfl
theorem k_E_39 : CI "TapeEnds" 39 y_R_init b_R_init 2 1 := ⟨rfl, tb_mem 133 (by decide +kernel) rfl, mi_R_init, in_R, mc_R_init, by decide +kernel, by decide +kernel, by decide +kernel⟩
theorem kx_R_5 : Cond.methodLink "TapeEnds$OrderReader" 5 ⟨"java/lang/Object", "<init>", "()V"⟩ ∈ TB := tb_mem 136 (by decide +kernel) rfl
theorem k_L_13 : CW "TapeEndsLaw" 13 y_E_length b_E_length 2 (some .int) 1 := ⟨tb_mem 187 (by decide +kernel) rfl, mi_E_length, ms_E_length, in_E, mc_E_length, by decide +kernel, by decide +kernel, by decide +kernel⟩
theorem k_E_50 : CW "TapeEnds" 50 y_T_copyFrom b_T_copyFrom 2 none 1 := ⟨tb_mem 191 (by decide +kernel) rfl, mi_T_copyFrom, ms_T_copyFrom, in_T, mc_T_copyFrom, by decide +kernel, by decide +kernel, by decide +kernel⟩
theorem kx_T_52 : Cond.methodLink "TapeEnds$Tape" 52 ⟨"java/lang/System", "arraycopy", "(Ljava/lang/Object;ILjava/lang/Object;II)V"⟩ ∈ TB := tb_mem 195 (by decide +kernel) rfl
theorem xs_System_arraycopy : Cond.static ({ cls := "java/lang/System", name := "arraycopy", desc := "(Ljava/lang/Object;ILjava/lang/Object;II)V" } : MethodName) ∈ TB := tb_mem 196 (by decide +kernel) rfl
theorem xn_System_arraycopy : Cond.native ({ cls := "java/lang/System", name := "arraycopy", desc := "(Ljava/lang/Object;ILjava/lang/Object;II)V" } : MethodName) ∈ TB := tb_mem 197 (by decide +kernel) rfl
theorem k_E_54 : CW "TapeEnds" 54 y_T_setFeet b_T_setFeet 3 (some .int) 1 := ⟨tb_mem 198 (by decide +kernel) rfl, mi_T_setFeet, ms_T_setFeet, in_T, mc_T_setFeet, by decide +kernel, by decide +kernel, by decide +kernel⟩
theorem k_T_58 : CW "TapeEnds$Tape" 58 y_T_allBlocks b_T_allBlocks 1 (some .int) 0 := ⟨tb_mem 202 (by decide +kernel) rfl, mi_T_allBlocks, ms_T_allBlocks, in_T, mc_T_allBlocks, by decide +kernel, by decide +kernel, by decide +kernel⟩
theorem kx_T_62 : Cond.methodLink "TapeEnds$Tape" 62 ⟨"java/lang/Math", "min", "(II)I"⟩ ∈ TB := tb_mem 206 (by decide +kernel) rfl
theorem xs_Math_min : Cond.static ({ cls := "java/lang/Math", name := "min", desc := "(II)I" } : MethodName) ∈ TB := tb_mem 207 (by decide +kernel) rfl
theorem xc_Math_min : Cond.code ({ cls := "java/lang/Math", name := "min", desc := "(II)I" } : MethodName) prog_7_method_69_code (2 : Nat) (Option.some FieldType.int) ∈ TB := tb_mem 208 (by decide +kernel) rfl
theorem k_E_58 : CW "TapeEnds" 58 y_E_recorded b_E_recorded 3 (some .int) 1 := ⟨tb_mem 209 (by decide +kernel) rfl, mi_E_recorded, ms_E_recorded, in_E, mc_E_recorded, by decide +kernel, by decide +kernel, by decide +kernel⟩
theorem k_E_139 : CW "TapeEnds" 139 y_E_dropOldest b_E_dropOldest 3 none 0 := ⟨tb_mem 213 (by decide +kernel) rfl, mi_E_dropOldest, ms_E_dropOldest, in_E, mc_E_dropOldest, by decide +kernel, by decide +kernel, by decide +kernel⟩
theorem k_L_18 : CW "TapeEndsLaw" 18 y_E_tune b_E_tune 3 (some .int) 2 := ⟨tb_mem 217 (by decide +kernel) rfl, mi_E_tune, ms_E_tune, in_E, mc_E_tune, by decide +kernel, by decide +kernel, by decide +kernel⟩
theorem k_E_61 : CW "TapeEnds" 61 y_T_setGapAndMark b_T_setGapAndMark 4 (some .int) 2 := ⟨tb_mem 221 (by decide +kernel) rfl, mi_T_setGapAndMark, ms_T_setGapAndMark, in_T, mc_T_setGapAndMark, by decide +kernel, by decide +kernel, by decide +kernel⟩
theorem k_T_68 : CW "TapeEnds$Tape" 68 y_T_gap b_T_gap 1 (some .int) 0 := ⟨tb_mem 225 (by decide +kernel) rfl, mi_T_gap, ms_T_gap, in_T, mc_T_gap, by decide +kernel, by decide +kernel, by decide +kernel⟩
theorem k_T_106 : CW "TapeEnds$Tape" 106 y_T_feetOfFirst b_T_feetOfFirst 5 (some .int) 2 := ⟨tb_mem 229 (by decide +kernel) rfl, mi_T_feetOfFirst, ms_T_feetOfFirst, in_T, mc_T_feetOfFirst, by decide +kernel, by decide +kernel, by decide +kernel⟩
theorem k_T_82 : CW "TapeEnds$Tape" 82 y_T_rowOf b_T_rowOf 3 (some .int) 2 := ⟨tb_mem 233 (by decide +kernel) rfl, mi_T_rowOf, ms_T_rowOf, in_T, mc_T_rowOf, by decide +kernel, by decide +kernel, by decide +kernel⟩
theorem k_T_113 : CW "TapeEnds$Tape" 113 y_T_wholeLength b_T_wholeLength 2 (some .int) 1 := ⟨tb_mem 237 (by decide +kernel) rfl, mi_T_wholeLength, ms_T_wholeLength, in_T, mc_T_wholeLength, by decide +kernel, by decide +kernel, by decide +kernel⟩
theorem k_L_23 : CW "TapeEndsLaw" 23 y_E_write b_E_write 4 (some .int) 3 := ⟨tb_mem 241 (by decide +kernel) rfl, mi_E_write, ms_E_write, in_E, mc_E_write, by decide +kernel, by decide +kernel, by decide +kernel⟩
theorem k_E_65 : CW "TapeEnds" 65 y_T_addBlock b_T_addBlock 6 (some .int) 3 := ⟨tb_mem 245 (by decide +kernel) rfl, mi_T_addBlock, ms_T_addBlock, in_T, mc_T_addBlock, by decide +kernel, by decide +kernel, by decide +kernel⟩
theorem k_T_71 : CW "TapeEnds$Tape" 71 y_T_isFile b_T_isFile 2 (some .boolean) 1 := ⟨tb_mem 249 (by decide +kernel) rfl, mi_T_isFile, ms_T_isFile, in_T, mc_T_isFile, by decide +kernel, by decide +kernel, by decide +kernel⟩
theorem k_T_75 : CW "TapeEnds$Tape" 75 y_T_endInGap b_T_endInGap 3 (some .int) 1 := ⟨tb_mem 253 (by decide +kernel) rfl, mi_T_endInGap, ms_T_endInGap, in_T, mc_T_endInGap, by decide +kernel, by decide +kernel, by decide +kernel⟩
theorem k_T_79 : CW "TapeEnds$Tape" 79 y_T_travelTo b_T_travelTo 3 (some .int) 1 := ⟨tb_mem 257 (by decide +kernel) rfl, mi_T_travelTo, ms_T_travelTo, in_T, mc_T_travelTo, by decide +kernel, by decide +kernel, by decide +kernel⟩
theorem kx_T_102 : Cond.methodLink "TapeEnds$Tape" 102 ⟨"java/lang/Math", "abs", "(I)I"⟩ ∈ TB := tb_mem 261 (by decide +kernel) rfl
theorem xs_Math_abs : Cond.static ({ cls := "java/lang/Math", name := "abs", desc := "(I)I" } : MethodName) ∈ TB := tb_mem 262 (by decide +kernel) rfl
theorem xc_Math_abs : Cond.code ({ cls := "java/lang/Math", name := "abs", desc := "(I)I" } : MethodName) prog_7_method_59_code (1 : Nat) (Option.some FieldType.int) ∈ TB := tb_mem 263 (by decide +kernel) rfl
theorem k_L_28 : CW "TapeEndsLaw" 28 y_E_cut b_E_cut 3 (some .int) 2 := ⟨tb_mem 265 (by decide +kernel) rfl, mi_E_cut, ms_E_cut, in_E, mc_E_cut, by decide +kernel, by decide +kernel, by decide +kernel⟩
theorem k_E_69 : CW "TapeEnds" 69 y_T_keepBlocks b_T_keepBlocks 4 (some .int) 2 := ⟨tb_mem 269 (by decide +kernel) rfl, mi_T_keepBlocks, ms_T_keepBlocks, in_T, mc_T_keepBlocks, by decide +kernel, by decide +kernel, by decide +kernel⟩
theorem k_L_32 : CW "TapeEndsLaw" 32 y_E_move b_E_move 2 (some .int) 1 := ⟨tb_mem 273 (by decide +kernel) rfl, mi_E_move, ms_E_move, in_E, mc_E_move, by decide +kernel, by decide +kernel, by decide +kernel⟩
theorem k_E_72 : CW "TapeEnds" 72 y_T_moveHead b_T_moveHead 2 (some .int) 1 := ⟨tb_mem 277 (by decide +kernel) rfl, mi_T_moveHead, ms_T_moveHead, in_T, mc_T_moveHead, by decide +kernel, by decide +kernel, by decide +kernel⟩
theorem k_L_36 : CW "TapeEndsLaw" 36 y_E_rewind b_E_rewind 1 (some .int) 0 := ⟨tb_mem 281 (by decide +kernel) rfl, mi_E_rewind, ms_E_rewind, in_E, mc_E_rewind, by decide +kernel, by decide +kernel, by decide +kernel⟩
theorem k_E_75 : CW "TapeEnds" 75 y_T_goToNearerEnd b_T_goToNearerEnd 1 (some .int) 0 := ⟨tb_mem 285 (by decide +kernel) rfl, mi_T_goToNearerEnd, ms_T_goToNearerEnd, in_T, mc_T_goToNearerEnd, by decide +kernel, by decide +kernel, by decide +kernel⟩
theorem k_L_41 : CW "TapeEndsLaw" 41 y_E_read b_E_read 4 (some .int) 3 := ⟨tb_mem 289 (by decide +kernel) rfl, mi_E_read, ms_E_read, in_E, mc_E_read, by decide +kernel, by decide +kernel, by decide +kernel⟩
theorem k_E_79 : CW "TapeEnds" 79 y_T_passBlock b_T_passBlock 5 (some .int) 3 := ⟨tb_mem 293 (by decide +kernel) rfl, mi_T_passBlock, ms_T_passBlock, in_T, mc_T_passBlock, by decide +kernel, by decide +kernel, by decide +kernel⟩
theorem k_T_85 : CW "TapeEnds$Tape" 85 y_T_isBlock b_T_isBlock 3 (some .boolean) 2 := ⟨tb_mem 297 (by decide +kernel) rfl, mi_T_isBlock, ms_T_isBlock, in_T, mc_T_isBlock, by decide +kernel, by decide +kernel, by decide +kernel⟩
theorem k_T_89 : CW "TapeEnds$Tape" 89 y_T_startOfReading b_T_startOfReading 5 (some .int) 3 := ⟨tb_mem 301 (by decide +kernel) rfl, mi_T_startOfReading, ms_T_startOfReading, in_T, mc_T_startOfReading, by decide +kernel, by decide +kernel, by decide +kernel⟩
theorem k_T_116 : CW "TapeEnds$Tape" 116 y_T_lowerEnd b_T_lowerEnd 3 (some .int) 2 := ⟨tb_mem 305 (by decide +kernel) rfl, mi_T_lowerEnd, ms_T_lowerEnd, in_T, mc_T_lowerEnd, by decide +kernel, by decide +kernel, by decide +kernel⟩
theorem k_L_45 : CW "TapeEndsLaw" 45 y_E_splice b_E_splice 3 (some .int) 2 := ⟨tb_mem 309 (by decide +kernel) rfl, mi_E_splice, ms_E_splice, in_E, mc_E_splice, by decide +kernel, by decide +kernel, by decide +kernel⟩
theorem k_E_82 : CW "TapeEnds" 82 y_T_takeOut b_T_takeOut 7 (some .int) 2 := ⟨tb_mem 313 (by decide +kernel) rfl, mi_T_takeOut, ms_T_takeOut, in_T, mc_T_takeOut, by decide +kernel, by decide +kernel, by decide +kernel⟩
theorem k_T_93 : CW "TapeEnds$Tape" 93 y_T_rowWithData b_T_rowWithData 7 (some .int) 2 := ⟨tb_mem 317 (by decide +kernel) rfl, mi_T_rowWithData, ms_T_rowWithData, in_T, mc_T_rowWithData, by decide +kernel, by decide +kernel, by decide +kernel⟩
theorem k_T_96 : CW "TapeEnds$Tape" 96 y_T_isInGap b_T_isInGap 3 (some .boolean) 2 := ⟨tb_mem 321 (by decide +kernel) rfl, mi_T_isInGap, ms_T_isInGap, in_T, mc_T_isInGap, by decide +kernel, by decide +kernel, by decide +kernel⟩
theorem kx_T_99 : Cond.methodLink "TapeEnds$Tape" 99 ⟨"java/lang/Math", "max", "(II)I"⟩ ∈ TB := tb_mem 325 (by decide +kernel) rfl
theorem xs_Math_max : Cond.static ({ cls := "java/lang/Math", name := "max", desc := "(II)I" } : MethodName) ∈ TB := tb_mem 326 (by decide +kernel) rfl
theorem xc_Math_max : Cond.code ({ cls := "java/lang/Math", name := "max", desc := "(II)I" } : MethodName) prog_7_method_65_code (2 : Nat) (Option.some FieldType.int) ∈ TB := tb_mem 327 (by decide +kernel) rfl
theorem k_L_49 : CW "TapeEndsLaw" 49 y_E_ofFile b_E_ofFile 3 (some .int) 2 := ⟨tb_mem 328 (by decide +kernel) rfl, mi_E_ofFile, ms_E_ofFile, in_E, mc_E_ofFile, by decide +kernel, by decide +kernel, by decide +kernel⟩
theorem k_E_85 : CW "TapeEnds" 85 y_T_aboutFile b_T_aboutFile 3 (some .int) 2 := ⟨tb_mem 332 (by decide +kernel) rfl, mi_T_aboutFile, ms_T_aboutFile, in_T, mc_T_aboutFile, by decide +kernel, by decide +kernel, by decide +kernel⟩
theorem k_T_109 : CW "TapeEnds$Tape" 109 y_T_totalOf b_T_totalOf 5 (some .int) 2 := ⟨tb_mem 336 (by decide +kernel) rfl, mi_T_totalOf, ms_T_totalOf, in_T, mc_T_totalOf, by decide +kernel, by decide +kernel, by decide +kernel⟩
theorem k_L_53 : CW "TapeEndsLaw" 53 y_E_ofBlock b_E_ofBlock 4 (some .int) 3 := ⟨tb_mem 340 (by decide +kernel) rfl, mi_E_ofBlock, ms_E_ofBlock, in_E, mc_E_ofBlock, by decide +kernel, by decide +kernel, by decide +kernel⟩
theorem k_E_88 : CW "TapeEnds" 88 y_T_aboutBlock b_T_aboutBlock 5 (some .int) 3 := ⟨tb_mem 344 (by decide +kernel) rfl, mi_T_aboutBlock, ms_T_aboutBlock, in_T, mc_T_aboutBlock, by decide +kernel, by decide +kernel, by decide +kernel⟩
theorem k_T_119 : CW "TapeEnds$Tape" 119 y_T_travelToRead b_T_travelToRead 4 (some .int) 3 := ⟨tb_mem 348 (by decide +kernel) rfl, mi_T_travelToRead, ms_T_travelToRead, in_T, mc_T_travelToRead, by decide +kernel, by decide +kernel, by decide +kernel⟩
theorem k_L_57 : CW "TapeEndsLaw" 57 y_E_at b_E_at 2 (some .int) 1 := ⟨tb_mem 352 (by decide +kernel) rfl, mi_E_at, ms_E_at, in_E, mc_E_at, by decide +kernel, by decide +kernel, by decide +kernel⟩
theorem k_E_91 : CW "TapeEnds" 91 y_T_kindOfFoot b_T_kindOfFoot 3 (some .int) 1 := ⟨tb_mem 356 (by decide +kernel) rfl, mi_T_kindOfFoot, ms_T_kindOfFoot, in_T, mc_T_kindOfFoot, by decide +kernel, by decide +kernel, by decide +kernel⟩
theorem k_L_61 : CW "TapeEndsLaw" 61 y_E_count b_E_count 2 (some .int) 1 := ⟨tb_mem 360 (by decide +kernel) rfl, mi_E_count, ms_E_count, in_E, mc_E_count, by decide +kernel, by decide +kernel, by decide +kernel⟩
theorem k_E_94 : CW "TapeEnds" 94 y_P_size b_P_size 1 (some .int) 0 := ⟨tb_mem 364 (by decide +kernel) rfl, mi_P_size, ms_P_size, in_P, mc_P_size, by decide +kernel, by decide +kernel, by decide +kernel⟩
theorem k_E_97 : CW "TapeEnds" 97 y_T_aboutTape b_T_aboutTape 2 (some .int) 1 := ⟨tb_mem 368 (by decide +kernel) rfl, mi_T_aboutTape, ms_T_aboutTape, in_T, mc_T_aboutTape, by decide +kernel, by decide +kernel, by decide +kernel⟩
theorem k_L_65 : CW "TapeEndsLaw" 65 y_E_fits b_E_fits 2 (some .int) 1 := ⟨tb_mem 372 (by decide +kernel) rfl, mi_E_fits, ms_E_fits, in_E, mc_E_fits, by decide +kernel, by decide +kernel, by decide +kernel⟩
theorem k_E_100 : CW "TapeEnds" 100 y_T_greatestData b_T_greatestData 2 (some .int) 1 := ⟨tb_mem 376 (by decide +kernel) rfl, mi_T_greatestData, ms_T_greatestData, in_T, mc_T_greatestData, by decide +kernel, by decide +kernel, by decide +kernel⟩
theorem k_L_69 : CW "TapeEndsLaw" 69 y_E_rooms b_E_rooms 2 (some .int) 1 := ⟨tb_mem 380 (by decide +kernel) rfl, mi_E_rooms, ms_E_rooms, in_E, mc_E_rooms, by decide +kernel, by decide +kernel, by decide +kernel⟩
theorem k_E_103 : CW "TapeEnds" 103 y_T_blocksThatFit b_T_blocksThatFit 3 (some .int) 1 := ⟨tb_mem 384 (by decide +kernel) rfl, mi_T_blocksThatFit, ms_T_blocksThatFit, in_T, mc_T_blocksThatFit, by decide +kernel, by decide +kernel, by decide +kernel⟩
theorem k_L_73 : CW "TapeEndsLaw" 73 y_E_nearest b_E_nearest 2 (some .int) 1 := ⟨tb_mem 388 (by decide +kernel) rfl, mi_E_nearest, ms_E_nearest, in_E, mc_E_nearest, by decide +kernel, by decide +kernel, by decide +kernel⟩
theorem k_E_106 : CW "TapeEnds" 106 y_T_aboutNearest b_T_aboutNearest 8 (some .int) 1 := ⟨tb_mem 392 (by decide +kernel) rfl, mi_T_aboutNearest, ms_T_aboutNearest, in_T, mc_T_aboutNearest, by decide +kernel, by decide +kernel, by decide +kernel⟩
theorem k_L_79 : CW "TapeEndsLaw" 79 y_E_put b_E_put 3 (some .int) 1 := ⟨tb_mem 396 (by decide +kernel) rfl, mi_E_put, ms_E_put, in_E, mc_E_put, by decide +kernel, by decide +kernel, by decide +kernel⟩
theorem k_E_109 : CW "TapeEnds" 109 y_P_append b_P_append 5 (some .int) 1 := ⟨tb_mem 400 (by decide +kernel) rfl, mi_P_append, ms_P_append, in_P, mc_P_append, by decide +kernel, by decide +kernel, by decide +kernel⟩
theorem k_P_19 : CW "TapeEnds$Pad" 19 y_P_charactersIn b_P_charactersIn 8 (some .int) 1 := ⟨tb_mem 404 (by decide +kernel) rfl, mi_P_charactersIn, ms_P_charactersIn, in_P, mc_P_charactersIn, by decide +kernel, by decide +kernel, by decide +kernel⟩
theorem k_L_84 : CW "TapeEndsLaw" 84 y_E_wipe b_E_wipe 1 (some .int) 0 := ⟨tb_mem 411 (by decide +kernel) rfl, mi_E_wipe, ms_E_wipe, in_E, mc_E_wipe, by decide +kernel, by decide +kernel, by decide +kernel⟩
theorem k_E_113 : CW "TapeEnds" 113 y_P_clear b_P_clear 2 (some .int) 0 := ⟨tb_mem 415 (by decide +kernel) rfl, mi_P_clear, ms_P_clear, in_P, mc_P_clear, by decide +kernel, by decide +kernel, by decide +kernel⟩
theorem k_L_88 : CW "TapeEndsLaw" 88 y_E_fault b_E_fault 1 (some .int) 0 := ⟨tb_mem 419 (by decide +kernel) rfl, mi_E_fault, ms_E_fault, in_E, mc_E_fault, by decide +kernel, by decide +kernel, by decide +kernel⟩
theorem k_E_116 : CW "TapeEnds" 116 y_R_faultPosition b_R_faultPosition 2 (some .int) 0 := ⟨tb_mem 423 (by decide +kernel) rfl, mi_R_faultPosition, ms_R_faultPosition, in_R, mc_R_faultPosition, by decide +kernel, by decide +kernel, by decide +kernel⟩
theorem k_R_29 : CW "TapeEnds$OrderReader" 29 y_R_startAgain b_R_startAgain 1 none 0 := ⟨tb_mem 427 (by decide +kernel) rfl, mi_R_startAgain, ms_R_startAgain, in_R, mc_R_startAgain, by decide +kernel, by decide +kernel, by decide +kernel⟩
theorem k_R_32 : CW "TapeEnds$OrderReader" 32 y_R_readNext b_R_readNext 1 none 0 := ⟨tb_mem 431 (by decide +kernel) rfl, mi_R_readNext, ms_R_readNext, in_R, mc_R_readNext, by decide +kernel, by decide +kernel, by decide +kernel⟩
theorem k_R_39 : CW "TapeEnds$OrderReader" 39 y_R_pass b_R_pass 2 none 1 := ⟨tb_mem 435 (by decide +kernel) rfl, mi_R_pass, ms_R_pass, in_R, mc_R_pass, by decide +kernel, by decide +kernel, by decide +kernel⟩
theorem k_R_92 : CW "TapeEnds$OrderReader" 92 y_R_passIfThere b_R_passIfThere 2 (some .boolean) 1 := ⟨tb_mem 439 (by decide +kernel) rfl, mi_R_passIfThere, ms_R_passIfThere, in_R, mc_R_passIfThere, by decide +kernel, by decide +kernel, by decide +kernel⟩
theorem k_R_82 : CW "TapeEnds$OrderReader" 82 y_P_characterAt b_P_characterAt 2 (some .char) 1 := ⟨tb_mem 443 (by decide +kernel) rfl, mi_P_characterAt, ms_P_characterAt, in_P, mc_P_characterAt, by decide +kernel, by decide +kernel, by decide +kernel⟩
theorem k_R_43 : CW "TapeEnds$OrderReader" 43 y_R_readOrder b_R_readOrder 1 none 0 := ⟨tb_mem 447 (by decide +kernel) rfl, mi_R_readOrder, ms_R_readOrder, in_R, mc_R_readOrder, by decide +kernel, by decide +kernel, by decide +kernel⟩
theorem k_R_86 : CW "TapeEnds$OrderReader" 86 y_R_readFile b_R_readFile 2 none 1 := ⟨tb_mem 451 (by decide +kernel) rfl, mi_R_readFile, ms_R_readFile, in_R, mc_R_readFile, by decide +kernel, by decide +kernel, by decide +kernel⟩
theorem k_R_89 : CW "TapeEnds$OrderReader" 89 y_R_readNumber b_R_readNumber 3 (some .int) 0 := ⟨tb_mem 455 (by decide +kernel) rfl, mi_R_readNumber, ms_R_readNumber, in_R, mc_R_readNumber, by decide +kernel, by decide +kernel, by decide +kernel⟩
theorem k_R_96 : CW "TapeEnds$OrderReader" 96 y_R_isDigitNext b_R_isDigitNext 2 (some .boolean) 0 := ⟨tb_mem 459 (by decide +kernel) rfl, mi_R_isDigitNext, ms_R_isDigitNext, in_R, mc_R_isDigitNext, by decide +kernel, by decide +kernel, by decide +kernel⟩
theorem k_R_35 : CW "TapeEnds$OrderReader" 35 y_R_hasMore b_R_hasMore 1 (some .boolean) 0 := ⟨tb_mem 463 (by decide +kernel) rfl, mi_R_hasMore, ms_R_hasMore, in_R, mc_R_hasMore, by decide +kernel, by decide +kernel, by decide +kernel⟩
theorem k_R_25 : CW "TapeEnds$OrderReader" 25 y_P_size b_P_size 1 (some .int) 0 := ⟨tb_mem 467 (by decide +kernel) rfl, mi_P_size, ms_P_size, in_P, mc_P_size, by decide +kernel, by decide +kernel, by decide +kernel⟩
theorem k_L_92 : CW "TapeEndsLaw" 92 y_E_carryOut b_E_carryOut 2 (some .int) 0 := ⟨tb_mem 468 (by decide +kernel) rfl, mi_E_carryOut, ms_E_carryOut, in_E, mc_E_carryOut, by decide +kernel, by decide +kernel, by decide +kernel⟩
theorem k_E_119 : CW "TapeEnds" 119 y_E_carryOutOrders b_E_carryOutOrders 2 (some .int) 0 := ⟨tb_mem 472 (by decide +kernel) rfl, mi_E_carryOutOrders, ms_E_carryOutOrders, in_E, mc_E_carryOutOrders, by decide +kernel, by decide +kernel, by decide +kernel⟩
theorem k_E_122 : CW "TapeEnds" 122 y_R_startAgain b_R_startAgain 1 none 0 := ⟨tb_mem 476 (by decide +kernel) rfl, mi_R_startAgain, ms_R_startAgain, in_R, mc_R_startAgain, by decide +kernel, by decide +kernel, by decide +kernel⟩
theorem k_E_125 : CW "TapeEnds" 125 y_R_hasMore b_R_hasMore 1 (some .boolean) 0 := ⟨tb_mem 477 (by decide +kernel) rfl, mi_R_hasMore, ms_R_hasMore, in_R, mc_R_hasMore, by decide +kernel, by decide +kernel, by decide +kernel⟩
theorem k_E_129 : CW "TapeEnds" 129 y_R_readNext b_R_readNext 1 none 0 := ⟨tb_mem 478 (by decide +kernel) rfl, mi_R_readNext, ms_R_readNext, in_R, mc_R_readNext, by decide +kernel, by decide +kernel, by decide +kernel⟩
theorem k_E_132 : CW "TapeEnds" 132 y_R_carryOutOn b_R_carryOutOn 2 (some .int) 1 := ⟨tb_mem 479 (by decide +kernel) rfl, mi_R_carryOutOn, ms_R_carryOutOn, in_R, mc_R_carryOutOn, by decide +kernel, by decide +kernel, by decide +kernel⟩
theorem k_R_59 : CW "TapeEnds$OrderReader" 59 y_T_addBlock b_T_addBlock 6 (some .int) 3 := ⟨tb_mem 483 (by decide +kernel) rfl, mi_T_addBlock, ms_T_addBlock, in_T, mc_T_addBlock, by decide +kernel, by decide +kernel, by decide +kernel⟩
theorem k_R_68 : CW "TapeEnds$OrderReader" 68 y_T_passBlock b_T_passBlock 5 (some .int) 3 := ⟨tb_mem 484 (by decide +kernel) rfl, mi_T_passBlock, ms_T_passBlock, in_T, mc_T_passBlock, by decide +kernel, by decide +kernel, by decide +kernel⟩
theorem k_R_71 : CW "TapeEnds$OrderReader" 71 y_T_keepBlocks b_T_keepBlocks 4 (some .int) 2 := ⟨tb_mem 485 (by decide +kernel) rfl, mi_T_keepBlocks, ms_T_keepBlocks, in_T, mc_T_keepBlocks, by decide +kernel, by decide +kernel, by decide +kernel⟩
theorem k_R_75 : CW "TapeEnds$OrderReader" 75 y_T_moveHead b_T_moveHead 2 (some .int) 1 := ⟨tb_mem 486 (by decide +kernel) rfl, mi_T_moveHead, ms_T_moveHead, in_T, mc_T_moveHead, by decide +kernel, by decide +kernel, by decide +kernel⟩
theorem k_R_79 : CW "TapeEnds$OrderReader" 79 y_T_goToNearerEnd b_T_goToNearerEnd 1 (some .int) 0 := ⟨tb_mem 487 (by decide +kernel) rfl, mi_T_goToNearerEnd, ms_T_goToNearerEnd, in_T, mc_T_goToNearerEnd, by decide +kernel, by decide +kernel, by decide +kernel⟩
theorem k_L_96 : CW "TapeEndsLaw" 96 y_E_undo b_E_undo 1 (some .int) 0 := ⟨tb_mem 488 (by decide +kernel) rfl, mi_E_undo, ms_E_undo, in_E, mc_E_undo, by decide +kernel, by decide +kernel, by decide +kernel⟩
theorem k_L_100 : CW "TapeEndsLaw" 100 y_E_save b_E_save 2 (some .int) 1 := ⟨tb_mem 492 (by decide +kernel) rfl, mi_E_save, ms_E_save, in_E, mc_E_save, by decide +kernel, by decide +kernel, by decide +kernel⟩
theorem k_E_136 : CW "TapeEnds" 136 y_T_allBlocks b_T_allBlocks 1 (some .int) 0 := ⟨tb_mem 496 (by decide +kernel) rfl, mi_T_allBlocks, ms_T_allBlocks, in_T, mc_T_allBlocks, by decide +kernel, by decide +kernel, by decide +kernel⟩
theorem k_L_104 : CW "TapeEndsLaw" 104 y_E_restore b_E_restore 2 (some .int) 1 := ⟨tb_mem 497 (by decide +kernel) rfl, mi_E_restore, ms_E_restore, in_E, mc_E_restore, by decide +kernel, by decide +kernel, by decide +kernel⟩
theorem k_L_12 : CI "TapeEndsLaw" 12 y_M_init b_M_init 1 0 := ⟨rfl, tb_mem 503 (by decide +kernel) rfl, mi_M_init, in_M, mc_M_init, by decide +kernel, by decide +kernel, by decide +kernel⟩
theorem kx_M_1 : Cond.methodLink "TapeEndsModel" 1 ⟨"java/lang/Object", "<init>", "()V"⟩ ∈ TB := tb_mem 506 (by decide +kernel) rfl
theorem k_L_17 : CW "TapeEndsLaw" 17 y_M_length b_M_length 3 (some .int) 1 := ⟨tb_mem 547 (by decide +kernel) rfl, mi_M_length, ms_M_length, in_M, mc_M_length, by decide +kernel, by decide +kernel, by decide +kernel⟩
theorem k_M_26 : CS "TapeEndsModel" 26 y_M_in b_M_in 3 (some .boolean) 3 := ⟨rfl, tb_mem 551 (by decide +kernel) rfl, mz_M_in, in_M, mc_M_in, by decide +kernel, by decide +kernel, by decide +kernel⟩
theorem k_M_82 : CW "TapeEndsModel" 82 y_M_know b_M_know 2 none 0 := ⟨tb_mem 554 (by decide +kernel) rfl, mi_M_know, ms_M_know, in_M, mc_M_know, by decide +kernel, by decide +kernel, by decide +kernel⟩
theorem k_L_22 : CW "TapeEndsLaw" 22 y_M_tune b_M_tune 4 (some .int) 2 := ⟨tb_mem 558 (by decide +kernel) rfl, mi_M_tune, ms_M_tune, in_M, mc_M_tune, by decide +kernel, by decide +kernel, by decide +kernel⟩
theorem k_M_70 : CW "TapeEndsModel" 70 y_M_gap b_M_gap 1 (some .int) 0 := ⟨tb_mem 562 (by decide +kernel) rfl, mi_M_gap, ms_M_gap, in_M, mc_M_gap, by decide +kernel, by decide +kernel, by decide +kernel⟩
theorem k_M_53 : CW "TapeEndsModel" 53 y_M_end b_M_end 2 (some .int) 1 := ⟨tb_mem 566 (by decide +kernel) rfl, mi_M_end, ms_M_end, in_M, mc_M_end, by decide +kernel, by decide +kernel, by decide +kernel⟩
theorem k_M_49 : CW "TapeEndsModel" 49 y_M_allFeet b_M_allFeet 2 (some .int) 1 := ⟨tb_mem 570 (by decide +kernel) rfl, mi_M_allFeet, ms_M_allFeet, in_M, mc_M_allFeet, by decide +kernel, by decide +kernel, by decide +kernel⟩
theorem k_M_46 : CW "TapeEndsModel" 46 y_M_feet b_M_feet 5 (some .int) 2 := ⟨tb_mem 574 (by decide +kernel) rfl, mi_M_feet, ms_M_feet, in_M, mc_M_feet, by decide +kernel, by decide +kernel, by decide +kernel⟩
theorem k_M_42 : CW "TapeEndsModel" 42 y_M_whole b_M_whole 3 (some .int) 2 := ⟨tb_mem 578 (by decide +kernel) rfl, mi_M_whole, ms_M_whole, in_M, mc_M_whole, by decide +kernel, by decide +kernel, by decide +kernel⟩
theorem k_M_38 : CS "TapeEndsModel" 38 y_M_of b_M_of 3 (some .int) 3 := ⟨rfl, tb_mem 582 (by decide +kernel) rfl, mz_M_of, in_M, mc_M_of, by decide +kernel, by decide +kernel, by decide +kernel⟩
theorem k_L_27 : CW "TapeEndsLaw" 27 y_M_write b_M_write 5 (some .int) 3 := ⟨tb_mem 585 (by decide +kernel) rfl, mi_M_write, ms_M_write, in_M, mc_M_write, by decide +kernel, by decide +kernel, by decide +kernel⟩
theorem k_M_85 : CW "TapeEndsModel" 85 y_M_writeFault b_M_writeFault 4 (some .int) 3 := ⟨tb_mem 589 (by decide +kernel) rfl, mi_M_writeFault, ms_M_writeFault, in_M, mc_M_writeFault, by decide +kernel, by decide +kernel, by decide +kernel⟩
theorem k_M_30 : CS "TapeEndsModel" 30 y_M_isFile b_M_isFile 1 (some .boolean) 1 := ⟨rfl, tb_mem 593 (by decide +kernel) rfl, mz_M_isFile, in_M, mc_M_isFile, by decide +kernel, by decide +kernel, by decide +kernel⟩
theorem k_M_88 : CW "TapeEndsModel" 88 y_M_writes b_M_writes 5 (some .int) 3 := ⟨tb_mem 596 (by decide +kernel) rfl, mi_M_writes, ms_M_writes, in_M, mc_M_writes, by decide +kernel, by decide +kernel, by decide +kernel⟩
theorem k_M_74 : CW "TapeEndsModel" 74 y_M_travel b_M_travel 2 none 1 := ⟨tb_mem 600 (by decide +kernel) rfl, mi_M_travel, ms_M_travel, in_M, mc_M_travel, by decide +kernel, by decide +kernel, by decide +kernel⟩
theorem k_M_59 : CS "TapeEndsModel" 59 y_M_apart b_M_apart 2 (some .int) 2 := ⟨rfl, tb_mem 604 (by decide +kernel) rfl, mz_M_apart, in_M, mc_M_apart, by decide +kernel, by decide +kernel, by decide +kernel⟩
theorem k_L_31 : CW "TapeEndsLaw" 31 y_M_cut b_M_cut 4 (some .int) 2 := ⟨tb_mem 608 (by decide +kernel) rfl, mi_M_cut, ms_M_cut, in_M, mc_M_cut, by decide +kernel, by decide +kernel, by decide +kernel⟩
theorem k_M_91 : CW "TapeEndsModel" 91 y_M_cutFault b_M_cutFault 3 (some .int) 2 := ⟨tb_mem 612 (by decide +kernel) rfl, mi_M_cutFault, ms_M_cutFault, in_M, mc_M_cutFault, by decide +kernel, by decide +kernel, by decide +kernel⟩
theorem k_M_94 : CW "TapeEndsModel" 94 y_M_cuts b_M_cuts 4 (some .int) 2 := ⟨tb_mem 616 (by decide +kernel) rfl, mi_M_cuts, ms_M_cuts, in_M, mc_M_cuts, by decide +kernel, by decide +kernel, by decide +kernel⟩
theorem k_L_35 : CW "TapeEndsLaw" 35 y_M_move b_M_move 2 (some .int) 1 := ⟨tb_mem 620 (by decide +kernel) rfl, mi_M_move, ms_M_move, in_M, mc_M_move, by decide +kernel, by decide +kernel, by decide +kernel⟩
theorem k_M_97 : CW "TapeEndsModel" 97 y_M_moves b_M_moves 3 (some .int) 1 := ⟨tb_mem 624 (by decide +kernel) rfl, mi_M_moves, ms_M_moves, in_M, mc_M_moves, by decide +kernel, by decide +kernel, by decide +kernel⟩
theorem k_L_40 : CW "TapeEndsLaw" 40 y_M_rewind b_M_rewind 1 (some .int) 0 := ⟨tb_mem 628 (by decide +kernel) rfl, mi_M_rewind, ms_M_rewind, in_M, mc_M_rewind, by decide +kernel, by decide +kernel, by decide +kernel⟩
theorem k_M_100 : CW "TapeEndsModel" 100 y_M_rewinds b_M_rewinds 1 (some .int) 0 := ⟨tb_mem 632 (by decide +kernel) rfl, mi_M_rewinds, ms_M_rewinds, in_M, mc_M_rewinds, by decide +kernel, by decide +kernel, by decide +kernel⟩
theorem k_L_44 : CW "TapeEndsLaw" 44 y_M_read b_M_read 5 (some .int) 3 := ⟨tb_mem 636 (by decide +kernel) rfl, mi_M_read, ms_M_read, in_M, mc_M_read, by decide +kernel, by decide +kernel, by decide +kernel⟩
theorem k_M_103 : CW "TapeEndsModel" 103 y_M_readFault b_M_readFault 4 (some .int) 3 := ⟨tb_mem 640 (by decide +kernel) rfl, mi_M_readFault, ms_M_readFault, in_M, mc_M_readFault, by decide +kernel, by decide +kernel, by decide +kernel⟩
theorem k_M_78 : CW "TapeEndsModel" 78 y_M_isBlock b_M_isBlock 3 (some .boolean) 2 := ⟨tb_mem 644 (by decide +kernel) rfl, mi_M_isBlock, ms_M_isBlock, in_M, mc_M_isBlock, by decide +kernel, by decide +kernel, by decide +kernel⟩
theorem k_M_106 : CW "TapeEndsModel" 106 y_M_reads b_M_reads 4 (some .int) 3 := ⟨tb_mem 648 (by decide +kernel) rfl, mi_M_reads, ms_M_reads, in_M, mc_M_reads, by decide +kernel, by decide +kernel, by decide +kernel⟩
theorem k_M_66 : CW "TapeEndsModel" 66 y_M_endOf b_M_endOf 6 (some .int) 4 := ⟨tb_mem 652 (by decide +kernel) rfl, mi_M_endOf, ms_M_endOf, in_M, mc_M_endOf, by decide +kernel, by decide +kernel, by decide +kernel⟩
theorem k_M_56 : CW "TapeEndsModel" 56 y_M_lower b_M_lower 3 (some .int) 2 := ⟨tb_mem 656 (by decide +kernel) rfl, mi_M_lower, ms_M_lower, in_M, mc_M_lower, by decide +kernel, by decide +kernel, by decide +kernel⟩
theorem k_M_63 : CW "TapeEndsModel" 63 y_M_upper b_M_upper 3 (some .int) 2 := ⟨tb_mem 660 (by decide +kernel) rfl, mi_M_upper, ms_M_upper, in_M, mc_M_upper, by decide +kernel, by decide +kernel, by decide +kernel⟩
theorem k_L_48 : CW "TapeEndsLaw" 48 y_M_splice b_M_splice 7 (some .int) 2 := ⟨tb_mem 664 (by decide +kernel) rfl, mi_M_splice, ms_M_splice, in_M, mc_M_splice, by decide +kernel, by decide +kernel, by decide +kernel⟩
theorem k_M_109 : CW "TapeEndsModel" 109 y_M_within b_M_within 7 (some .int) 2 := ⟨tb_mem 668 (by decide +kernel) rfl, mi_M_within, ms_M_within, in_M, mc_M_within, by decide +kernel, by decide +kernel, by decide +kernel⟩
theorem k_L_52 : CW "TapeEndsLaw" 52 y_M_ofFile b_M_ofFile 3 (some .int) 2 := ⟨tb_mem 672 (by decide +kernel) rfl, mi_M_ofFile, ms_M_ofFile, in_M, mc_M_ofFile, by decide +kernel, by decide +kernel, by decide +kernel⟩
theorem k_M_112 : CW "TapeEndsModel" 112 y_M_sum b_M_sum 5 (some .int) 2 := ⟨tb_mem 676 (by decide +kernel) rfl, mi_M_sum, ms_M_sum, in_M, mc_M_sum, by decide +kernel, by decide +kernel, by decide +kernel⟩
theorem k_L_56 : CW "TapeEndsLaw" 56 y_M_ofBlock b_M_ofBlock 4 (some .int) 3 := ⟨tb_mem 680 (by decide +kernel) rfl, mi_M_ofBlock, ms_M_ofBlock, in_M, mc_M_ofBlock, by decide +kernel, by decide +kernel, by decide +kernel⟩
theorem k_M_115 : CW "TapeEndsModel" 115 y_M_travelTo b_M_travelTo 4 (some .int) 3 := ⟨tb_mem 684 (by decide +kernel) rfl, mi_M_travelTo, ms_M_travelTo, in_M, mc_M_travelTo, by decide +kernel, by decide +kernel, by decide +kernel⟩
theorem k_L_60 : CW "TapeEndsLaw" 60 y_M_at b_M_at 3 (some .int) 1 := ⟨tb_mem 688 (by decide +kernel) rfl, mi_M_at, ms_M_at, in_M, mc_M_at, by decide +kernel, by decide +kernel, by decide +kernel⟩
theorem k_L_64 : CW "TapeEndsLaw" 64 y_M_count b_M_count 2 (some .int) 1 := ⟨tb_mem 692 (by decide +kernel) rfl, mi_M_count, ms_M_count, in_M, mc_M_count, by decide +kernel, by decide +kernel, by decide +kernel⟩
theorem k_L_68 : CW "TapeEndsLaw" 68 y_M_fits b_M_fits 3 (some .int) 1 := ⟨tb_mem 696 (by decide +kernel) rfl, mi_M_fits, ms_M_fits, in_M, mc_M_fits, by decide +kernel, by decide +kernel, by decide +kernel⟩
theorem k_L_72 : CW "TapeEndsLaw" 72 y_M_rooms b_M_rooms 4 (some .int) 1 := ⟨tb_mem 700 (by decide +kernel) rfl, mi_M_rooms, ms_M_rooms, in_M, mc_M_rooms, by decide +kernel, by decide +kernel, by decide +kernel⟩
theorem k_L_76 : CW "TapeEndsLaw" 76 y_M_nearest b_M_nearest 9 (some .int) 1 := ⟨tb_mem 704 (by decide +kernel) rfl, mi_M_nearest, ms_M_nearest, in_M, mc_M_nearest, by decide +kernel, by decide +kernel, by decide +kernel⟩
theorem k_L_83 : CW "TapeEndsLaw" 83 y_M_put b_M_put 8 (some .int) 1 := ⟨tb_mem 708 (by decide +kernel) rfl, mi_M_put, ms_M_put, in_M, mc_M_put, by decide +kernel, by decide +kernel, by decide +kernel⟩
theorem k_L_87 : CW "TapeEndsLaw" 87 y_M_wipe b_M_wipe 2 (some .int) 0 := ⟨tb_mem 713 (by decide +kernel) rfl, mi_M_wipe, ms_M_wipe, in_M, mc_M_wipe, by decide +kernel, by decide +kernel, by decide +kernel⟩
theorem k_L_91 : CW "TapeEndsLaw" 91 y_M_fault b_M_fault 2 (some .int) 0 := ⟨tb_mem 717 (by decide +kernel) rfl, mi_M_fault, ms_M_fault, in_M, mc_M_fault, by decide +kernel, by decide +kernel, by decide +kernel⟩
theorem k_M_158 : CW "TapeEndsModel" 158 y_M_go b_M_go 6 (some .int) 1 := ⟨tb_mem 721 (by decide +kernel) rfl, mi_M_go, ms_M_go, in_M, mc_M_go, by decide +kernel, by decide +kernel, by decide +kernel⟩
theorem k_M_151 : CW "TapeEndsModel" 151 y_M_order b_M_order 4 none 0 := ⟨tb_mem 725 (by decide +kernel) rfl, mi_M_order, ms_M_order, in_M, mc_M_order, by decide +kernel, by decide +kernel, by decide +kernel⟩
theorem k_M_130 : CW "TapeEndsModel" 130 y_M_sign b_M_sign 4 (some .int) 2 := ⟨tb_mem 729 (by decide +kernel) rfl, mi_M_sign, ms_M_sign, in_M, mc_M_sign, by decide +kernel, by decide +kernel, by decide +kernel⟩
theorem k_M_142 : CW "TapeEndsModel" 142 y_M_number b_M_number 3 (some .int) 0 := ⟨tb_mem 733 (by decide +kernel) rfl, mi_M_number, ms_M_number, in_M, mc_M_number, by decide +kernel, by decide +kernel, by decide +kernel⟩
theorem k_M_133 : CW "TapeEndsModel" 133 y_M_isNext b_M_isNext 3 (some .boolean) 2 := ⟨tb_mem 737 (by decide +kernel) rfl, mi_M_isNext, ms_M_isNext, in_M, mc_M_isNext, by decide +kernel, by decide +kernel, by decide +kernel⟩
theorem k_M_154 : CW "TapeEndsModel" 154 y_M_does b_M_does 4 (some .boolean) 0 := ⟨tb_mem 741 (by decide +kernel) rfl, mi_M_does, ms_M_does, in_M, mc_M_does, by decide +kernel, by decide +kernel, by decide +kernel⟩
theorem k_L_95 : CW "TapeEndsLaw" 95 y_M_carryOut b_M_carryOut 3 (some .int) 0 := ⟨tb_mem 745 (by decide +kernel) rfl, mi_M_carryOut, ms_M_carryOut, in_M, mc_M_carryOut, by decide +kernel, by decide +kernel, by decide +kernel⟩
theorem k_L_99 : CW "TapeEndsLaw" 99 y_M_undo b_M_undo 2 (some .int) 0 := ⟨tb_mem 749 (by decide +kernel) rfl, mi_M_undo, ms_M_undo, in_M, mc_M_undo, by decide +kernel, by decide +kernel, by decide +kernel⟩
theorem k_L_103 : CW "TapeEndsLaw" 103 y_M_save b_M_save 3 (some .int) 1 := ⟨tb_mem 753 (by decide +kernel) rfl, mi_M_save, ms_M_save, in_M, mc_M_save, by decide +kernel, by decide +kernel, by decide +kernel⟩
theorem k_L_107 : CW "TapeEndsLaw" 107 y_M_restore b_M_restore 3 (some .int) 1 := ⟨tb_mem 757 (by decide +kernel) rfl, mi_M_restore, ms_M_restore, in_M, mc_M_restore, by decide +kernel, by decide +kernel, by decide +kernel⟩
end
