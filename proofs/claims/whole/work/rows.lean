section
-- ===== PART A: goes FIRST, ahead of the names: the tables' words, and 'selects' of the private methods out of them =====
/-- a private method of a class that the tables say can be made, by its rows of tables_1 -/
def lw_okq (q : MethodName × Nat) : Prop := (q.1.cls ≠ "java/lang/invoke/MethodHandle" ∧ q.1.cls ≠ "java/lang/invoke/VarHandle") ∧ Cond.instantiable q.1.cls q.2 ∈ tables_1 ∧ Cond.privateMethod q.1 ∈ tables_1 ∧ Cond.instanceMethod q.1 ∈ tables_1
theorem lw_p0 : lw_okq (⟨"TapeEnds", "recorded", "(I)I"⟩, 8) := ⟨⟨by decide +kernel, by decide +kernel⟩, List.mem_of_getElem? (i := 9) (by decide +kernel), List.mem_of_getElem? (i := 158) (by decide +kernel), List.mem_of_getElem? (i := 159) (by decide +kernel)⟩
theorem lw_p1 : lw_okq (⟨"TapeEnds", "dropOldest", "()V"⟩, 8) := ⟨⟨by decide +kernel, by decide +kernel⟩, List.mem_of_getElem? (i := 9) (by decide +kernel), List.mem_of_getElem? (i := 162) (by decide +kernel), List.mem_of_getElem? (i := 163) (by decide +kernel)⟩
theorem lw_p2 : lw_okq (⟨"TapeEnds$Tape", "gap", "()I"⟩, 13) := ⟨⟨by decide +kernel, by decide +kernel⟩, List.mem_of_getElem? (i := 17) (by decide +kernel), List.mem_of_getElem? (i := 174) (by decide +kernel), List.mem_of_getElem? (i := 175) (by decide +kernel)⟩
theorem lw_p3 : lw_okq (⟨"TapeEnds$Tape", "feetOfFirst", "(II)I"⟩, 13) := ⟨⟨by decide +kernel, by decide +kernel⟩, List.mem_of_getElem? (i := 17) (by decide +kernel), List.mem_of_getElem? (i := 178) (by decide +kernel), List.mem_of_getElem? (i := 179) (by decide +kernel)⟩
theorem lw_p4 : lw_okq (⟨"TapeEnds$Tape", "rowOf", "(II)I"⟩, 13) := ⟨⟨by decide +kernel, by decide +kernel⟩, List.mem_of_getElem? (i := 17) (by decide +kernel), List.mem_of_getElem? (i := 182) (by decide +kernel), List.mem_of_getElem? (i := 183) (by decide +kernel)⟩
theorem lw_p5 : lw_okq (⟨"TapeEnds$Tape", "wholeLength", "(I)I"⟩, 13) := ⟨⟨by decide +kernel, by decide +kernel⟩, List.mem_of_getElem? (i := 17) (by decide +kernel), List.mem_of_getElem? (i := 186) (by decide +kernel), List.mem_of_getElem? (i := 187) (by decide +kernel)⟩
theorem lw_p6 : lw_okq (⟨"TapeEnds$Tape", "isFile", "(I)Z"⟩, 13) := ⟨⟨by decide +kernel, by decide +kernel⟩, List.mem_of_getElem? (i := 17) (by decide +kernel), List.mem_of_getElem? (i := 198) (by decide +kernel), List.mem_of_getElem? (i := 199) (by decide +kernel)⟩
theorem lw_p7 : lw_okq (⟨"TapeEnds$Tape", "endInGap", "(I)I"⟩, 13) := ⟨⟨by decide +kernel, by decide +kernel⟩, List.mem_of_getElem? (i := 17) (by decide +kernel), List.mem_of_getElem? (i := 202) (by decide +kernel), List.mem_of_getElem? (i := 203) (by decide +kernel)⟩
theorem lw_p8 : lw_okq (⟨"TapeEnds$Tape", "travelTo", "(I)I"⟩, 13) := ⟨⟨by decide +kernel, by decide +kernel⟩, List.mem_of_getElem? (i := 17) (by decide +kernel), List.mem_of_getElem? (i := 206) (by decide +kernel), List.mem_of_getElem? (i := 207) (by decide +kernel)⟩
theorem lw_p9 : lw_okq (⟨"TapeEnds$Tape", "isBlock", "(II)Z"⟩, 13) := ⟨⟨by decide +kernel, by decide +kernel⟩, List.mem_of_getElem? (i := 17) (by decide +kernel), List.mem_of_getElem? (i := 246) (by decide +kernel), List.mem_of_getElem? (i := 247) (by decide +kernel)⟩
theorem lw_p10 : lw_okq (⟨"TapeEnds$Tape", "startOfReading", "(III)I"⟩, 13) := ⟨⟨by decide +kernel, by decide +kernel⟩, List.mem_of_getElem? (i := 17) (by decide +kernel), List.mem_of_getElem? (i := 250) (by decide +kernel), List.mem_of_getElem? (i := 251) (by decide +kernel)⟩
theorem lw_p11 : lw_okq (⟨"TapeEnds$Tape", "lowerEnd", "(II)I"⟩, 13) := ⟨⟨by decide +kernel, by decide +kernel⟩, List.mem_of_getElem? (i := 17) (by decide +kernel), List.mem_of_getElem? (i := 254) (by decide +kernel), List.mem_of_getElem? (i := 255) (by decide +kernel)⟩
theorem lw_p12 : lw_okq (⟨"TapeEnds$Tape", "rowWithData", "(II)I"⟩, 13) := ⟨⟨by decide +kernel, by decide +kernel⟩, List.mem_of_getElem? (i := 17) (by decide +kernel), List.mem_of_getElem? (i := 266) (by decide +kernel), List.mem_of_getElem? (i := 267) (by decide +kernel)⟩
theorem lw_p13 : lw_okq (⟨"TapeEnds$Tape", "isInGap", "(II)Z"⟩, 13) := ⟨⟨by decide +kernel, by decide +kernel⟩, List.mem_of_getElem? (i := 17) (by decide +kernel), List.mem_of_getElem? (i := 270) (by decide +kernel), List.mem_of_getElem? (i := 271) (by decide +kernel)⟩
theorem lw_p14 : lw_okq (⟨"TapeEnds$Tape", "totalOf", "([II)I"⟩, 13) := ⟨⟨by decide +kernel, by decide +kernel⟩, List.mem_of_getElem? (i := 17) (by decide +kernel), List.mem_of_getElem? (i := 285) (by decide +kernel), List.mem_of_getElem? (i := 286) (by decide +kernel)⟩
theorem lw_p15 : lw_okq (⟨"TapeEnds$Tape", "travelToRead", "(III)I"⟩, 13) := ⟨⟨by decide +kernel, by decide +kernel⟩, List.mem_of_getElem? (i := 17) (by decide +kernel), List.mem_of_getElem? (i := 297) (by decide +kernel), List.mem_of_getElem? (i := 298) (by decide +kernel)⟩
def lw_privs_1 : List (MethodName × Nat) := [(⟨"TapeEnds", "recorded", "(I)I"⟩, 8), (⟨"TapeEnds", "dropOldest", "()V"⟩, 8), (⟨"TapeEnds$Tape", "gap", "()I"⟩, 13), (⟨"TapeEnds$Tape", "feetOfFirst", "(II)I"⟩, 13), (⟨"TapeEnds$Tape", "rowOf", "(II)I"⟩, 13), (⟨"TapeEnds$Tape", "wholeLength", "(I)I"⟩, 13), (⟨"TapeEnds$Tape", "isFile", "(I)Z"⟩, 13), (⟨"TapeEnds$Tape", "endInGap", "(I)I"⟩, 13), (⟨"TapeEnds$Tape", "travelTo", "(I)I"⟩, 13), (⟨"TapeEnds$Tape", "isBlock", "(II)Z"⟩, 13), (⟨"TapeEnds$Tape", "startOfReading", "(III)I"⟩, 13), (⟨"TapeEnds$Tape", "lowerEnd", "(II)I"⟩, 13), (⟨"TapeEnds$Tape", "rowWithData", "(II)I"⟩, 13), (⟨"TapeEnds$Tape", "isInGap", "(II)Z"⟩, 13), (⟨"TapeEnds$Tape", "totalOf", "([II)I"⟩, 13), (⟨"TapeEnds$Tape", "travelToRead", "(III)I"⟩, 13)]
theorem lw_r1 : ∀ q ∈ lw_privs_1, lw_okq q := List.forall_mem_cons.mpr ⟨lw_p0, List.forall_mem_cons.mpr ⟨lw_p1, List.forall_mem_cons.mpr ⟨lw_p2, List.forall_mem_cons.mpr ⟨lw_p3, List.forall_mem_cons.mpr ⟨lw_p4, List.forall_mem_cons.mpr ⟨lw_p5, List.forall_mem_cons.mpr ⟨lw_p6, List.forall_mem_cons.mpr ⟨lw_p7, List.forall_mem_cons.mpr ⟨lw_p8, List.forall_mem_cons.mpr ⟨lw_p9, List.forall_mem_cons.mpr ⟨lw_p10, List.forall_mem_cons.mpr ⟨lw_p11, List.forall_mem_cons.mpr ⟨lw_p12, List.forall_mem_cons.mpr ⟨lw_p13, List.forall_mem_cons.mpr ⟨lw_p14, List.forall_mem_cons.mpr ⟨lw_p15, fun _ h => absurd h List.not_mem_nil⟩⟩⟩⟩⟩⟩⟩⟩⟩⟩⟩⟩⟩⟩⟩⟩
theorem lw_p16 : lw_okq (⟨"TapeEnds$Pad", "charactersIn", "(J)I"⟩, 2) := ⟨⟨by decide +kernel, by decide +kernel⟩, List.mem_of_getElem? (i := 65) (by decide +kernel), List.mem_of_getElem? (i := 353) (by decide +kernel), List.mem_of_getElem? (i := 354) (by decide +kernel)⟩
theorem lw_p17 : lw_okq (⟨"TapeEnds$OrderReader", "pass", "(C)V"⟩, 8) := ⟨⟨by decide +kernel, by decide +kernel⟩, List.mem_of_getElem? (i := 80) (by decide +kernel), List.mem_of_getElem? (i := 384) (by decide +kernel), List.mem_of_getElem? (i := 385) (by decide +kernel)⟩
theorem lw_p18 : lw_okq (⟨"TapeEnds$OrderReader", "passIfThere", "(C)Z"⟩, 8) := ⟨⟨by decide +kernel, by decide +kernel⟩, List.mem_of_getElem? (i := 80) (by decide +kernel), List.mem_of_getElem? (i := 388) (by decide +kernel), List.mem_of_getElem? (i := 389) (by decide +kernel)⟩
theorem lw_p19 : lw_okq (⟨"TapeEnds$OrderReader", "readOrder", "()V"⟩, 8) := ⟨⟨by decide +kernel, by decide +kernel⟩, List.mem_of_getElem? (i := 80) (by decide +kernel), List.mem_of_getElem? (i := 396) (by decide +kernel), List.mem_of_getElem? (i := 397) (by decide +kernel)⟩
theorem lw_p20 : lw_okq (⟨"TapeEnds$OrderReader", "readFile", "(C)V"⟩, 8) := ⟨⟨by decide +kernel, by decide +kernel⟩, List.mem_of_getElem? (i := 80) (by decide +kernel), List.mem_of_getElem? (i := 400) (by decide +kernel), List.mem_of_getElem? (i := 401) (by decide +kernel)⟩
theorem lw_p21 : lw_okq (⟨"TapeEnds$OrderReader", "readNumber", "()I"⟩, 8) := ⟨⟨by decide +kernel, by decide +kernel⟩, List.mem_of_getElem? (i := 80) (by decide +kernel), List.mem_of_getElem? (i := 404) (by decide +kernel), List.mem_of_getElem? (i := 405) (by decide +kernel)⟩
theorem lw_p22 : lw_okq (⟨"TapeEnds$OrderReader", "isDigitNext", "()Z"⟩, 8) := ⟨⟨by decide +kernel, by decide +kernel⟩, List.mem_of_getElem? (i := 80) (by decide +kernel), List.mem_of_getElem? (i := 408) (by decide +kernel), List.mem_of_getElem? (i := 409) (by decide +kernel)⟩
theorem lw_p23 : lw_okq (⟨"TapeEnds", "carryOutOrders", "()I"⟩, 8) := ⟨⟨by decide +kernel, by decide +kernel⟩, List.mem_of_getElem? (i := 9) (by decide +kernel), List.mem_of_getElem? (i := 421) (by decide +kernel), List.mem_of_getElem? (i := 422) (by decide +kernel)⟩
theorem lw_p24 : lw_okq (⟨"TapeEndsModel", "know", "()V"⟩, 13) := ⟨⟨by decide +kernel, by decide +kernel⟩, List.mem_of_getElem? (i := 450) (by decide +kernel), List.mem_of_getElem? (i := 503) (by decide +kernel), List.mem_of_getElem? (i := 504) (by decide +kernel)⟩
theorem lw_p25 : lw_okq (⟨"TapeEndsModel", "gap", "()I"⟩, 13) := ⟨⟨by decide +kernel, by decide +kernel⟩, List.mem_of_getElem? (i := 450) (by decide +kernel), List.mem_of_getElem? (i := 511) (by decide +kernel), List.mem_of_getElem? (i := 512) (by decide +kernel)⟩
theorem lw_p26 : lw_okq (⟨"TapeEndsModel", "end", "(I)I"⟩, 13) := ⟨⟨by decide +kernel, by decide +kernel⟩, List.mem_of_getElem? (i := 450) (by decide +kernel), List.mem_of_getElem? (i := 515) (by decide +kernel), List.mem_of_getElem? (i := 516) (by decide +kernel)⟩
theorem lw_p27 : lw_okq (⟨"TapeEndsModel", "allFeet", "(I)I"⟩, 13) := ⟨⟨by decide +kernel, by decide +kernel⟩, List.mem_of_getElem? (i := 450) (by decide +kernel), List.mem_of_getElem? (i := 519) (by decide +kernel), List.mem_of_getElem? (i := 520) (by decide +kernel)⟩
theorem lw_p28 : lw_okq (⟨"TapeEndsModel", "feet", "(II)I"⟩, 13) := ⟨⟨by decide +kernel, by decide +kernel⟩, List.mem_of_getElem? (i := 450) (by decide +kernel), List.mem_of_getElem? (i := 523) (by decide +kernel), List.mem_of_getElem? (i := 524) (by decide +kernel)⟩
theorem lw_p29 : lw_okq (⟨"TapeEndsModel", "whole", "(II)I"⟩, 13) := ⟨⟨by decide +kernel, by decide +kernel⟩, List.mem_of_getElem? (i := 450) (by decide +kernel), List.mem_of_getElem? (i := 527) (by decide +kernel), List.mem_of_getElem? (i := 528) (by decide +kernel)⟩
theorem lw_p30 : lw_okq (⟨"TapeEndsModel", "writeFault", "(III)I"⟩, 13) := ⟨⟨by decide +kernel, by decide +kernel⟩, List.mem_of_getElem? (i := 450) (by decide +kernel), List.mem_of_getElem? (i := 538) (by decide +kernel), List.mem_of_getElem? (i := 539) (by decide +kernel)⟩
theorem lw_p31 : lw_okq (⟨"TapeEndsModel", "writes", "(III)I"⟩, 13) := ⟨⟨by decide +kernel, by decide +kernel⟩, List.mem_of_getElem? (i := 450) (by decide +kernel), List.mem_of_getElem? (i := 545) (by decide +kernel), List.mem_of_getElem? (i := 546) (by decide +kernel)⟩
def lw_privs_2 : List (MethodName × Nat) := [(⟨"TapeEnds$Pad", "charactersIn", "(J)I"⟩, 2), (⟨"TapeEnds$OrderReader", "pass", "(C)V"⟩, 8), (⟨"TapeEnds$OrderReader", "passIfThere", "(C)Z"⟩, 8), (⟨"TapeEnds$OrderReader", "readOrder", "()V"⟩, 8), (⟨"TapeEnds$OrderReader", "readFile", "(C)V"⟩, 8), (⟨"TapeEnds$OrderReader", "readNumber", "()I"⟩, 8), (⟨"TapeEnds$OrderReader", "isDigitNext", "()Z"⟩, 8), (⟨"TapeEnds", "carryOutOrders", "()I"⟩, 8), (⟨"TapeEndsModel", "know", "()V"⟩, 13), (⟨"TapeEndsModel", "gap", "()I"⟩, 13), (⟨"TapeEndsModel", "end", "(I)I"⟩, 13), (⟨"TapeEndsModel", "allFeet", "(I)I"⟩, 13), (⟨"TapeEndsModel", "feet", "(II)I"⟩, 13), (⟨"TapeEndsModel", "whole", "(II)I"⟩, 13), (⟨"TapeEndsModel", "writeFault", "(III)I"⟩, 13), (⟨"TapeEndsModel", "writes", "(III)I"⟩, 13)]
theorem lw_r2 : ∀ q ∈ lw_privs_2, lw_okq q := List.forall_mem_cons.mpr ⟨lw_p16, List.forall_mem_cons.mpr ⟨lw_p17, List.forall_mem_cons.mpr ⟨lw_p18, List.forall_mem_cons.mpr ⟨lw_p19, List.forall_mem_cons.mpr ⟨lw_p20, List.forall_mem_cons.mpr ⟨lw_p21, List.forall_mem_cons.mpr ⟨lw_p22, List.forall_mem_cons.mpr ⟨lw_p23, List.forall_mem_cons.mpr ⟨lw_p24, List.forall_mem_cons.mpr ⟨lw_p25, List.forall_mem_cons.mpr ⟨lw_p26, List.forall_mem_cons.mpr ⟨lw_p27, List.forall_mem_cons.mpr ⟨lw_p28, List.forall_mem_cons.mpr ⟨lw_p29, List.forall_mem_cons.mpr ⟨lw_p30, List.forall_mem_cons.mpr ⟨lw_p31, fun _ h => absurd h List.not_mem_nil⟩⟩⟩⟩⟩⟩⟩⟩⟩⟩⟩⟩⟩⟩⟩⟩
theorem lw_p32 : lw_okq (⟨"TapeEndsModel", "travel", "(I)V"⟩, 13) := ⟨⟨by decide +kernel, by decide +kernel⟩, List.mem_of_getElem? (i := 450) (by decide +kernel), List.mem_of_getElem? (i := 549) (by decide +kernel), List.mem_of_getElem? (i := 550) (by decide +kernel)⟩
theorem lw_p33 : lw_okq (⟨"TapeEndsModel", "cutFault", "(II)I"⟩, 13) := ⟨⟨by decide +kernel, by decide +kernel⟩, List.mem_of_getElem? (i := 450) (by decide +kernel), List.mem_of_getElem? (i := 561) (by decide +kernel), List.mem_of_getElem? (i := 562) (by decide +kernel)⟩
theorem lw_p34 : lw_okq (⟨"TapeEndsModel", "cuts", "(II)I"⟩, 13) := ⟨⟨by decide +kernel, by decide +kernel⟩, List.mem_of_getElem? (i := 450) (by decide +kernel), List.mem_of_getElem? (i := 565) (by decide +kernel), List.mem_of_getElem? (i := 566) (by decide +kernel)⟩
theorem lw_p35 : lw_okq (⟨"TapeEndsModel", "moves", "(I)I"⟩, 13) := ⟨⟨by decide +kernel, by decide +kernel⟩, List.mem_of_getElem? (i := 450) (by decide +kernel), List.mem_of_getElem? (i := 573) (by decide +kernel), List.mem_of_getElem? (i := 574) (by decide +kernel)⟩
theorem lw_p36 : lw_okq (⟨"TapeEndsModel", "rewinds", "()I"⟩, 13) := ⟨⟨by decide +kernel, by decide +kernel⟩, List.mem_of_getElem? (i := 450) (by decide +kernel), List.mem_of_getElem? (i := 581) (by decide +kernel), List.mem_of_getElem? (i := 582) (by decide +kernel)⟩
theorem lw_p37 : lw_okq (⟨"TapeEndsModel", "readFault", "(III)I"⟩, 13) := ⟨⟨by decide +kernel, by decide +kernel⟩, List.mem_of_getElem? (i := 450) (by decide +kernel), List.mem_of_getElem? (i := 589) (by decide +kernel), List.mem_of_getElem? (i := 590) (by decide +kernel)⟩
theorem lw_p38 : lw_okq (⟨"TapeEndsModel", "isBlock", "(II)Z"⟩, 13) := ⟨⟨by decide +kernel, by decide +kernel⟩, List.mem_of_getElem? (i := 450) (by decide +kernel), List.mem_of_getElem? (i := 593) (by decide +kernel), List.mem_of_getElem? (i := 594) (by decide +kernel)⟩
theorem lw_p39 : lw_okq (⟨"TapeEndsModel", "reads", "(III)I"⟩, 13) := ⟨⟨by decide +kernel, by decide +kernel⟩, List.mem_of_getElem? (i := 450) (by decide +kernel), List.mem_of_getElem? (i := 597) (by decide +kernel), List.mem_of_getElem? (i := 598) (by decide +kernel)⟩
theorem lw_p40 : lw_okq (⟨"TapeEndsModel", "endOf", "(IIIZ)I"⟩, 13) := ⟨⟨by decide +kernel, by decide +kernel⟩, List.mem_of_getElem? (i := 450) (by decide +kernel), List.mem_of_getElem? (i := 601) (by decide +kernel), List.mem_of_getElem? (i := 602) (by decide +kernel)⟩
theorem lw_p41 : lw_okq (⟨"TapeEndsModel", "lower", "(II)I"⟩, 13) := ⟨⟨by decide +kernel, by decide +kernel⟩, List.mem_of_getElem? (i := 450) (by decide +kernel), List.mem_of_getElem? (i := 605) (by decide +kernel), List.mem_of_getElem? (i := 606) (by decide +kernel)⟩
theorem lw_p42 : lw_okq (⟨"TapeEndsModel", "upper", "(II)I"⟩, 13) := ⟨⟨by decide +kernel, by decide +kernel⟩, List.mem_of_getElem? (i := 450) (by decide +kernel), List.mem_of_getElem? (i := 609) (by decide +kernel), List.mem_of_getElem? (i := 610) (by decide +kernel)⟩
theorem lw_p43 : lw_okq (⟨"TapeEndsModel", "within", "(II)I"⟩, 13) := ⟨⟨by decide +kernel, by decide +kernel⟩, List.mem_of_getElem? (i := 450) (by decide +kernel), List.mem_of_getElem? (i := 617) (by decide +kernel), List.mem_of_getElem? (i := 618) (by decide +kernel)⟩
theorem lw_p44 : lw_okq (⟨"TapeEndsModel", "sum", "(II)I"⟩, 13) := ⟨⟨by decide +kernel, by decide +kernel⟩, List.mem_of_getElem? (i := 450) (by decide +kernel), List.mem_of_getElem? (i := 625) (by decide +kernel), List.mem_of_getElem? (i := 626) (by decide +kernel)⟩
theorem lw_p45 : lw_okq (⟨"TapeEndsModel", "travelTo", "(III)I"⟩, 13) := ⟨⟨by decide +kernel, by decide +kernel⟩, List.mem_of_getElem? (i := 450) (by decide +kernel), List.mem_of_getElem? (i := 633) (by decide +kernel), List.mem_of_getElem? (i := 634) (by decide +kernel)⟩
theorem lw_p46 : lw_okq (⟨"TapeEndsModel", "go", "(Z)I"⟩, 13) := ⟨⟨by decide +kernel, by decide +kernel⟩, List.mem_of_getElem? (i := 450) (by decide +kernel), List.mem_of_getElem? (i := 670) (by decide +kernel), List.mem_of_getElem? (i := 671) (by decide +kernel)⟩
theorem lw_p47 : lw_okq (⟨"TapeEndsModel", "order", "()V"⟩, 13) := ⟨⟨by decide +kernel, by decide +kernel⟩, List.mem_of_getElem? (i := 450) (by decide +kernel), List.mem_of_getElem? (i := 674) (by decide +kernel), List.mem_of_getElem? (i := 675) (by decide +kernel)⟩
def lw_privs_3 : List (MethodName × Nat) := [(⟨"TapeEndsModel", "travel", "(I)V"⟩, 13), (⟨"TapeEndsModel", "cutFault", "(II)I"⟩, 13), (⟨"TapeEndsModel", "cuts", "(II)I"⟩, 13), (⟨"TapeEndsModel", "moves", "(I)I"⟩, 13), (⟨"TapeEndsModel", "rewinds", "()I"⟩, 13), (⟨"TapeEndsModel", "readFault", "(III)I"⟩, 13), (⟨"TapeEndsModel", "isBlock", "(II)Z"⟩, 13), (⟨"TapeEndsModel", "reads", "(III)I"⟩, 13), (⟨"TapeEndsModel", "endOf", "(IIIZ)I"⟩, 13), (⟨"TapeEndsModel", "lower", "(II)I"⟩, 13), (⟨"TapeEndsModel", "upper", "(II)I"⟩, 13), (⟨"TapeEndsModel", "within", "(II)I"⟩, 13), (⟨"TapeEndsModel", "sum", "(II)I"⟩, 13), (⟨"TapeEndsModel", "travelTo", "(III)I"⟩, 13), (⟨"TapeEndsModel", "go", "(Z)I"⟩, 13), (⟨"TapeEndsModel", "order", "()V"⟩, 13)]
theorem lw_r3 : ∀ q ∈ lw_privs_3, lw_okq q := List.forall_mem_cons.mpr ⟨lw_p32, List.forall_mem_cons.mpr ⟨lw_p33, List.forall_mem_cons.mpr ⟨lw_p34, List.forall_mem_cons.mpr ⟨lw_p35, List.forall_mem_cons.mpr ⟨lw_p36, List.forall_mem_cons.mpr ⟨lw_p37, List.forall_mem_cons.mpr ⟨lw_p38, List.forall_mem_cons.mpr ⟨lw_p39, List.forall_mem_cons.mpr ⟨lw_p40, List.forall_mem_cons.mpr ⟨lw_p41, List.forall_mem_cons.mpr ⟨lw_p42, List.forall_mem_cons.mpr ⟨lw_p43, List.forall_mem_cons.mpr ⟨lw_p44, List.forall_mem_cons.mpr ⟨lw_p45, List.forall_mem_cons.mpr ⟨lw_p46, List.forall_mem_cons.mpr ⟨lw_p47, fun _ h => absurd h List.not_mem_nil⟩⟩⟩⟩⟩⟩⟩⟩⟩⟩⟩⟩⟩⟩⟩⟩
theorem lw_p48 : lw_okq (⟨"TapeEndsModel", "sign", "(II)I"⟩, 13) := ⟨⟨by decide +kernel, by decide +kernel⟩, List.mem_of_getElem? (i := 450) (by decide +kernel), List.mem_of_getElem? (i := 678) (by decide +kernel), List.mem_of_getElem? (i := 679) (by decide +kernel)⟩
theorem lw_p49 : lw_okq (⟨"TapeEndsModel", "number", "()I"⟩, 13) := ⟨⟨by decide +kernel, by decide +kernel⟩, List.mem_of_getElem? (i := 450) (by decide +kernel), List.mem_of_getElem? (i := 682) (by decide +kernel), List.mem_of_getElem? (i := 683) (by decide +kernel)⟩
theorem lw_p50 : lw_okq (⟨"TapeEndsModel", "isNext", "(II)Z"⟩, 13) := ⟨⟨by decide +kernel, by decide +kernel⟩, List.mem_of_getElem? (i := 450) (by decide +kernel), List.mem_of_getElem? (i := 686) (by decide +kernel), List.mem_of_getElem? (i := 687) (by decide +kernel)⟩
theorem lw_p51 : lw_okq (⟨"TapeEndsModel", "does", "()Z"⟩, 13) := ⟨⟨by decide +kernel, by decide +kernel⟩, List.mem_of_getElem? (i := 450) (by decide +kernel), List.mem_of_getElem? (i := 690) (by decide +kernel), List.mem_of_getElem? (i := 691) (by decide +kernel)⟩
def lw_privs_4 : List (MethodName × Nat) := [(⟨"TapeEndsModel", "sign", "(II)I"⟩, 13), (⟨"TapeEndsModel", "number", "()I"⟩, 13), (⟨"TapeEndsModel", "isNext", "(II)Z"⟩, 13), (⟨"TapeEndsModel", "does", "()Z"⟩, 13)]
theorem lw_r4 : ∀ q ∈ lw_privs_4, lw_okq q := List.forall_mem_cons.mpr ⟨lw_p48, List.forall_mem_cons.mpr ⟨lw_p49, List.forall_mem_cons.mpr ⟨lw_p50, List.forall_mem_cons.mpr ⟨lw_p51, fun _ h => absurd h List.not_mem_nil⟩⟩⟩⟩
def lw_privs : List (MethodName × Nat) := lw_privs_1 ++ (lw_privs_2 ++ (lw_privs_3 ++ (lw_privs_4)))
def lw_tbl : List Cond := k2_sels lw_privs ++ tables_1
theorem lw_privs_ok : ∀ q ∈ lw_privs, lw_okq q := by
  show ∀ q ∈ lw_privs_1 ++ (lw_privs_2 ++ (lw_privs_3 ++ (lw_privs_4))), lw_okq q
  exact List.forall_mem_append.mpr ⟨lw_r1, List.forall_mem_append.mpr ⟨lw_r2, List.forall_mem_append.mpr ⟨lw_r3, lw_r4⟩⟩⟩
end
section
def R_E : String := "TapeEnds"
def F_E : u_T := fun k => match k with
  | 0 => ("TapeEnds", "past", "[LTapeEnds$Tape;", true)
  | 1 => ("TapeEnds", "slots", "[LTapeEnds$Tape;", true)
  | 2 => ("TapeEnds", "saved", "[Z", true)
  | 3 => ("TapeEnds", "pad", "LTapeEnds$Pad;", true)
  | 4 => ("TapeEnds", "reader", "LTapeEnds$OrderReader;", true)
  | 5 => ("TapeEnds", "tape", "LTapeEnds$Tape;", true)
  | 6 => ("TapeEnds", "before", "LTapeEnds$Tape;", false)
  | _ => ("TapeEnds", "pastCount", "I", false)
def ty_E : Nat → FieldType := fun k => match k with
  | 0 => .array (.object "TapeEnds$Tape")
  | 1 => .array (.object "TapeEnds$Tape")
  | 2 => .array .boolean
  | 3 => .object "TapeEnds$Pad"
  | 4 => .object "TapeEnds$OrderReader"
  | 5 => .object "TapeEnds$Tape"
  | 6 => .object "TapeEnds$Tape"
  | _ => .int
def R_T : String := "TapeEnds$Tape"
def F_T : u_T := fun k => match k with
  | 0 => ("TapeEnds$Tape", "feet", "I", false)
  | 1 => ("TapeEnds$Tape", "leastGap", "I", false)
  | 2 => ("TapeEnds$Tape", "mark", "I", false)
  | 3 => ("TapeEnds$Tape", "head", "I", false)
  | 4 => ("TapeEnds$Tape", "splices", "I", false)
  | 5 => ("TapeEnds$Tape", "feetTakenOut", "I", false)
  | 6 => ("TapeEnds$Tape", "travel", "I", false)
  | 7 => ("TapeEnds$Tape", "blocksRead", "I", false)
  | 8 => ("TapeEnds$Tape", "blocks", "[I", true)
  | 9 => ("TapeEnds$Tape", "data", "[I", true)
  | 10 => ("TapeEnds$Tape", "sums", "[I", true)
  | 11 => ("TapeEnds$Tape", "marks", "[I", true)
  | _ => ("TapeEnds$Tape", "timesRead", "[I", true)
def ty_T : Nat → FieldType := fun k => match k with
  | 0 => .int
  | 1 => .int
  | 2 => .int
  | 3 => .int
  | 4 => .int
  | 5 => .int
  | 6 => .int
  | 7 => .int
  | 8 => .array .int
  | 9 => .array .int
  | 10 => .array .int
  | 11 => .array .int
  | _ => .array .int
def R_P : String := "TapeEnds$Pad"
def F_P : u_T := fun k => match k with
  | 0 => ("TapeEnds$Pad", "text", "[C", true)
  | _ => ("TapeEnds$Pad", "size", "I", false)
def ty_P : Nat → FieldType := fun k => match k with
  | 0 => .array .char
  | _ => .int
def R_R : String := "TapeEnds$OrderReader"
def F_R : u_T := fun k => match k with
  | 0 => ("TapeEnds$OrderReader", "pad", "LTapeEnds$Pad;", true)
  | 1 => ("TapeEnds$OrderReader", "position", "I", false)
  | 2 => ("TapeEnds$OrderReader", "failed", "Z", false)
  | 3 => ("TapeEnds$OrderReader", "kind", "C", false)
  | 4 => ("TapeEnds$OrderReader", "file", "I", false)
  | 5 => ("TapeEnds$OrderReader", "number", "I", false)
  | 6 => ("TapeEnds$OrderReader", "sum", "I", false)
  | _ => ("TapeEnds$OrderReader", "backwards", "I", false)
def ty_R : Nat → FieldType := fun k => match k with
  | 0 => .object "TapeEnds$Pad"
  | 1 => .int
  | 2 => .boolean
  | 3 => .char
  | 4 => .int
  | 5 => .int
  | 6 => .int
  | _ => .int
def R_M : String := "TapeEndsModel"
def F_M : u_T := fun k => match k with
  | 0 => ("TapeEndsModel", "s", "[I", true)
  | 1 => ("TapeEndsModel", "before", "[I", true)
  | 2 => ("TapeEndsModel", "known", "I", false)
  | 3 => ("TapeEndsModel", "slots", "[I", true)
  | 4 => ("TapeEndsModel", "isSaved", "[Z", true)
  | 5 => ("TapeEndsModel", "pad", "[I", true)
  | 6 => ("TapeEndsModel", "padLength", "I", false)
  | 7 => ("TapeEndsModel", "place", "I", false)
  | 8 => ("TapeEndsModel", "isWrong", "Z", false)
  | 9 => ("TapeEndsModel", "letter", "I", false)
  | 10 => ("TapeEndsModel", "one", "I", false)
  | 11 => ("TapeEndsModel", "two", "I", false)
  | _ => ("TapeEndsModel", "three", "I", false)
def ty_M : Nat → FieldType := fun k => match k with
  | 0 => .array .int
  | 1 => .array .int
  | 2 => .int
  | 3 => .array .int
  | 4 => .array .boolean
  | 5 => .array .int
  | 6 => .int
  | 7 => .int
  | 8 => .boolean
  | 9 => .int
  | 10 => .int
  | 11 => .int
  | _ => .int
abbrev classes : List vw_C := [(R_E, F_E, 8), (R_T, F_T, 13), (R_P, F_P, 2), (R_R, F_R, 8), (R_M, F_M, 13)]
/-! The words that every contract leans on: those of the tables that stay true under every shift; one list for all methods. -/
def TB : List Cond := lw_tbl.filter goodWord
theorem tb_mem (i : Nat) {w : Cond} (h : lw_tbl[i]? = some w) (hg : goodWord w = true) : w ∈ TB := List.mem_filter.mpr ⟨List.mem_of_getElem? h, hg⟩
theorem tb_in {w : Cond} (h : w ∈ TB) : w ∈ lw_tbl := (List.mem_filter.mp h).1
theorem tb_ok {w : Cond} (h : w ∈ TB) : (w.onTables && w.keeps) = true ∨ ∃ ty, w = .arrayClass ty := good_of_word (List.mem_filter.mp h).2
abbrev wd (y : MethodName) (b : ByteArray) (n : Nat) (rt : Option FieldType) : List Cond := .code y b n rt :: TB
theorem wd_good {y : MethodName} {b : ByteArray} {n : Nat} {rt : Option FieldType} (h : Cond.code y b n rt ∈ TB) : GoodIn TB (wd y b n rt) := fun w hw => by
  rcases List.mem_cons.mp hw with rfl | hw
  · exact ⟨h, tb_ok h⟩
  · exact ⟨hw, tb_ok hw⟩
abbrev rm (fr lo mc ms : Nat) : Room := { frames := fr, cells := mc, slots := ms, locals := lo }
/-- the classes of the arrays: ints, booleans, chars, Tapes -/
abbrev tys (ca : Nat → ClassId) : List (ClassId × FieldType) := [(ca 0, .int), (ca 1, .boolean), (ca 2, .char), (ca 3, .object "TapeEnds$Tape")]
/-- the words of a call of an instance method -/
def CW (own : String) (idx : Nat) (y : MethodName) (b : ByteArray) (n : Nat) (rt : Option FieldType) (k : Nat) : Prop :=
  Cond.methodLink own idx y ∈ TB ∧ Cond.instanceMethod y ∈ TB ∧ Cond.selects y.cls y y ∈ TB ∧ Cond.initialized y.cls ∈ TB ∧ Cond.code y b n rt ∈ TB ∧
    y.cls ≠ "java/lang/invoke/MethodHandle" ∧ y.cls ≠ "java/lang/invoke/VarHandle" ∧ (parseMethodDescriptor y.desc).map (fun d => d.parameters.length) = some k
/-- the words of a call of a static method -/
def CS (own : String) (idx : Nat) (y : MethodName) (b : ByteArray) (n : Nat) (rt : Option FieldType) (k : Nat) : Prop :=
  y.cls = own ∧ Cond.methodLink own idx y ∈ TB ∧ Cond.static y ∈ TB ∧ Cond.initialized own ∈ TB ∧ Cond.code y b n rt ∈ TB ∧
    y.cls ≠ "java/lang/invoke/MethodHandle" ∧ y.cls ≠ "java/lang/invoke/VarHandle" ∧ (parseMethodDescriptor y.desc).map (fun d => d.parameters.length) = some k
/-- the words of a call of a constructor -/
def CI (own : String) (idx : Nat) (y : MethodName) (b : ByteArray) (n : Nat) (k : Nat) : Prop :=
  y.name = "<init>" ∧ Cond.methodLink own idx y ∈ TB ∧ Cond.instanceMethod y ∈ TB ∧ Cond.initialized y.cls ∈ TB ∧ Cond.code y b n none ∈ TB ∧
    y.cls ≠ "java/lang/invoke/MethodHandle" ∧ y.cls ≠ "java/lang/invoke/VarHandle" ∧ (parseMethodDescriptor y.desc).map (fun d => d.parameters.length) = some k
theorem CW.cw {R : Room} {s : State} {args : Array Value} {own : String} {idx : Nat} {y : MethodName} {b : ByteArray} {n : Nat} {rt : Option FieldType} {k fr lo mc ms : Nat} (hts : ∀ w ∈ TB, w.before args s = true) (h : CW own idx y b n rt k) (hR : fr + 1 ≤ R.frames ∧ 8 + (n + 11) + lo ≤ R.locals) :
    CallW R s args own y.cls idx y b n rt (wd y b n rt) (rm fr lo mc ms) mc ms k := by
  obtain ⟨h1, h2, h3, h4, h5, h6⟩ := h
  refine cwV k hts (fun w hw => ?_) rfl rfl rfl ⟨rfl, h6⟩ hR
  unfold wsV at hw
  rcases List.mem_append.mp hw with hw | hw
  · simp only [List.mem_cons, List.not_mem_nil, or_false] at hw
    rcases hw with rfl | rfl | rfl | rfl
    · exact ⟨h1, tb_ok h1⟩
    · exact ⟨h2, tb_ok h2⟩
    · exact ⟨h3, tb_ok h3⟩
    · exact ⟨h4, tb_ok h4⟩
  · exact wd_good h5 w hw
theorem CS.cw {R : Room} {s : State} {args : Array Value} {own : String} {idx : Nat} {y : MethodName} {b : ByteArray} {n : Nat} {rt : Option FieldType} {k fr lo mc ms : Nat} (hts : ∀ w ∈ TB, w.before args s = true) (h : CS own idx y b n rt k) (hR : fr + 1 ≤ R.frames ∧ 8 + (n + 11) + lo ≤ R.locals) :
    CallB R s args own idx y b n rt (wd y b n rt) (rm fr lo mc ms) mc ms k ∧ (Cond.static y).before args s = true := by
  obtain ⟨h0, h1, h2, h4, h5, h6⟩ := h
  refine cwS k hts (fun w hw => ?_) rfl rfl rfl ⟨h0, h6⟩ hR
  unfold wsS at hw
  rcases List.mem_append.mp hw with hw | hw
  · simp only [List.mem_cons, List.not_mem_nil, or_false] at hw
    rcases hw with rfl | rfl | rfl
    · exact ⟨h1, tb_ok h1⟩
    · exact ⟨h2, tb_ok h2⟩
    · exact ⟨h4, tb_ok h4⟩
  · exact wd_good h5 w hw
theorem CI.cw {R : Room} {s : State} {args : Array Value} {own : String} {idx : Nat} {y : MethodName} {b : ByteArray} {n : Nat} {k fr lo mc ms : Nat} (hts : ∀ w ∈ TB, w.before args s = true) (h : CI own idx y b n k) (hR : fr + 1 ≤ R.frames ∧ 8 + (n + 11) + lo ≤ R.locals) :
    CallB R s args own idx y b n none (wd y b n none) (rm fr lo mc ms) mc ms k ∧ y.name = "<init>" ∧ (Cond.instanceMethod y).before args s = true := by
  obtain ⟨h0, h1, h2, h4, h5, h6⟩ := h
  exact cwI k hts (wd_good h5) rfl rfl rfl (hts _ h4) (hts _ h1) (hts _ h2) h0 h6 hR
theorem fm_of {α : Type} {f : Nat → Option α} : ∀ {is : List Nat} {wc : List α}, is.map f = wc.map some → is.filterMap f = wc
  | [], [], _ => rfl
  | [], _ :: _, h => by cases h
  | _ :: _, [], h => by cases h
  | i :: is, w :: wc, h => by
    simp only [List.map_cons, List.cons.injEq] at h
    simp only [List.filterMap_cons, h.1, fm_of h.2]
/-! A method that writes nothing: its answer is E. -/
def RO (l : Launch) (y : MethodName) (b : ByteArray) (n : Nat) (rt : Option FieldType) (fr lo : Nat) (D : va_G) (ca : Nat → ClassId) (as : List Value) (ws : va_W) (E : Int32) : Prop :=
  Met l y (wd y b n rt) (rm fr lo 0 0) (va_Pc as (fun U => va_P D classes ws U.heap ∧ va_K D classes (tys ca) U)) (vp_Si (fun r => r = E)) 0 0 (fun _ => False)
/-- A method that may write the cells ws and no others, makes none: its answer is E, the cells are w' behind it. -/
def MI (l : Launch) (y : MethodName) (b : ByteArray) (n : Nat) (rt : Option FieldType) (fr lo : Nat) (D : va_G) (ca : Nat → ClassId) (as : List Value) (ws : va_W) (E : Int32) (w' : va_W) : Prop :=
  ∀ sz : Nat, Met l y (wd y b n rt) (rm fr lo 0 0) (va_Pc as (fun U => U.heap.size = sz ∧ va_P D classes ws U.heap ∧ va_K D classes (tys ca) U ∧ va_D (fun _ => True) ws)) (va_Qi (fun r (_ : Unit) => r = E) (fun _ t => va_P D classes w' t.heap ∧ va_D (va_A ws sz) w') (va_A ws sz)) 0 0 (va_A ws sz)
def MV (l : Launch) (y : MethodName) (b : ByteArray) (n : Nat) (fr lo : Nat) (D : va_G) (ca : Nat → ClassId) (as : List Value) (ws : va_W) (w' : va_W) : Prop :=
  ∀ sz : Nat, Met l y (wd y b n none) (rm fr lo 0 0) (va_Pc as (fun U => U.heap.size = sz ∧ va_P D classes ws U.heap ∧ va_K D classes (tys ca) U ∧ va_D (fun _ => True) ws)) (va_Qv (fun (_ : Unit) => True) (fun _ t => va_P D classes w' t.heap ∧ va_D (va_A ws sz) w') (va_A ws sz)) 0 0 (va_A ws sz)
theorem RO.mk {l : Launch} {y : MethodName} {b : ByteArray} {n : Nat} {rt : Option FieldType} {fr lo : Nat} {D : va_G} {ca : Nat → ClassId} {as : List Value} {ws : va_W} {E : Int32} {ty : FieldType} (hy : plainName y.cls = true) (hrt : rt = some ty) (hle : (lg_sl as).length ≤ n)
    (body : ∀ (p : Program) (e : Env) (s : State) (m : MethodId) (args : Array Value) (below : List Frame) (meth : Method) (c : Code) (Q : State → Prop), CallFix p m c b n s args TB y.cls → va_P D classes ws s.heap → va_K D classes (tys ca) s →
      (∀ (pc : Nat) (ls : Array Slot) (v : Int32), decode b pc = .ok (.ireturn, 1) → narrow ty (.int v) = .int v → v = E → W p l e (rm fr lo 0 0) s m args below meth c s.heap [] 0 0 Q (F0 m pc ls [.int v])) →
      ∀ ls : Array Slot, lv_has ls n (lv_args 0 as) → W p l e (rm fr lo 0 0) s m args below meth c s.heap [] 0 0 Q (F0 m 0 ls [])) : RO l y b n rt fr lo D ca as ws E := by
  refine Met.ofW (cc := b) (maxL := n) (ret := rt) hy rfl ?_
  intro p e s m args below meth c s₁ B hml hv
  obtain ⟨rfl, hP, hK⟩ := hv
  have hts := atoms_spec (ws := wd y b n rt) B.pre
  have hr := B.returns
  have hlocks := B.notSynchronized
  have hl := lv_entry as (n := n) hle
  rw [lg_entry_eq]
  generalize (lg_sl as ++ List.replicate (n - (lg_sl as).length) Slot.unset).toArray = ls at hl ⊢
  refine body p e s m _ below meth c _ ⟨B.exec, B.bytes, hml, findClass_of_methodNamed B.named, fun w hw => hts w (List.mem_cons_of_mem _ hw)⟩ hP hK ?_ ls hl
  intro pc ls v hd hn hv
  exact W.zret (ty := ty) B.exec B.bytes (by rw [hr, hrt]) hn (fun t ht _ => ⟨v, rfl, hv, ht⟩) (fun q hq => by cases hq) hd
theorem MI.mk {l : Launch} {y : MethodName} {b : ByteArray} {n : Nat} {rt : Option FieldType} {fr lo : Nat} {D : va_G} {ca : Nat → ClassId} {as : List Value} {ws w' : va_W} {E : Int32} {ty : FieldType} (hy : plainName y.cls = true) (hrt : rt = some ty) (hle : (lg_sl as).length ≤ n)
    (body : ∀ (p : Program) (e : Env) (s : State) (m : MethodId) (args : Array Value) (below : List Frame) (meth : Method) (c : Code) (Q : State → Prop) (A : Nat → Prop), CallFix p m c b n s args TB y.cls → (∀ q : Nat, s.heap.size ≤ q → A q) → va_P D classes ws s.heap → va_D A ws → va_K D classes (tys ca) s →
      (∀ (pc : Nat) (ls : Array Slot) (v : Int32) (H : Heap) (locs : List Loc) (w : va_W), decode b pc = .ok (.ireturn, 1) → narrow ty (.int v) = .int v → v = E → w = w' → va_P D classes w H → va_D A w → va_S A s.heap H locs → W p l e (rm fr lo 0 0) s m args below meth c H locs 0 0 Q (F0 m pc ls [.int v])) →
      ∀ ls : Array Slot, lv_has ls n (lv_args 0 as) → va_S A s.heap s.heap [] → W p l e (rm fr lo 0 0) s m args below meth c s.heap [] 0 0 Q (F0 m 0 ls [])) : MI l y b n rt fr lo D ca as ws E w' := by
  intro sz
  refine Met.ofW (cc := b) (maxL := n) (ret := rt) hy rfl ?_
  intro p e s m args below meth c s₁ B hml hv
  obtain ⟨rfl, rfl, hP, hK, hD0⟩ := hv
  have hts := atoms_spec (ws := wd y b n rt) B.pre
  have hr := B.returns
  have hlocks := B.notSynchronized
  have hl := lv_entry as (n := n) hle
  rw [lg_entry_eq]
  generalize (lg_sl as ++ List.replicate (n - (lg_sl as).length) Slot.unset).toArray = ls at hl ⊢
  refine body p e s m _ below meth c _ (va_A ws s.heap.size) ⟨B.exec, B.bytes, hml, findClass_of_methodNamed B.named, fun w hw => hts w (List.mem_cons_of_mem _ hw)⟩ (fun q h => Or.inr h) hP hD0.self hK ?_ ls hl va_S.rf
  intro pc ls v H locs w hd hn hv hw hP hD hS
  subst hw
  exact W.zret (ty := ty) B.exec B.bytes (by rw [hr, hrt]) hn (fun t ht _ => ⟨⟨v, (), rfl, hv, by rw [ht]; exact hP, hD⟩, hS.F ht⟩) hS.2.2 hd
theorem MV.mk {l : Launch} {y : MethodName} {b : ByteArray} {n : Nat} {fr lo : Nat} {D : va_G} {ca : Nat → ClassId} {as : List Value} {ws w' : va_W} (hy : plainName y.cls = true) (hle : (lg_sl as).length ≤ n)
    (body : ∀ (p : Program) (e : Env) (s : State) (m : MethodId) (args : Array Value) (below : List Frame) (meth : Method) (c : Code) (Q : State → Prop) (A : Nat → Prop), CallFix p m c b n s args TB y.cls → (∀ q : Nat, s.heap.size ≤ q → A q) → va_P D classes ws s.heap → va_D A ws → va_K D classes (tys ca) s →
      (∀ (pc : Nat) (ls : Array Slot) (H : Heap) (locs : List Loc) (w : va_W), decode b pc = .ok (.return_, 1) → w = w' → va_P D classes w H → va_D A w → va_S A s.heap H locs → W p l e (rm fr lo 0 0) s m args below meth c H locs 0 0 Q (F0 m pc ls [])) →
      ∀ ls : Array Slot, lv_has ls n (lv_args 0 as) → va_S A s.heap s.heap [] → W p l e (rm fr lo 0 0) s m args below meth c s.heap [] 0 0 Q (F0 m 0 ls [])) : MV l y b n fr lo D ca as ws w' := by
  intro sz
  refine Met.ofW (cc := b) (maxL := n) (ret := none) hy rfl ?_
  intro p e s m args below meth c s₁ B hml hv
  obtain ⟨rfl, rfl, hP, hK, hD0⟩ := hv
  have hts := atoms_spec (ws := wd y b n none) B.pre
  have hr := B.returns
  have hlocks := B.notSynchronized
  have hl := lv_entry as (n := n) hle
  rw [lg_entry_eq]
  generalize (lg_sl as ++ List.replicate (n - (lg_sl as).length) Slot.unset).toArray = ls at hl ⊢
  refine body p e s m _ below meth c _ (va_A ws s.heap.size) ⟨B.exec, B.bytes, hml, findClass_of_methodNamed B.named, fun w hw => hts w (List.mem_cons_of_mem _ hw)⟩ (fun q h => Or.inr h) hP hD0.self hK ?_ ls hl va_S.rf
  intro pc ls H locs w hd hw hP hD hS
  subst hw
  exact W.vret B.exec B.bytes hr (fun t ht _ => ⟨⟨(), rfl, trivial, by rw [ht]; exact hP, hD⟩, hS.F ht⟩) hS.2.2 hd
section FW
variable {p : Program} {l : Launch} {e : Env} {R : Room} {s : State} {m : MethodId} {args : Array Value} {below : List Frame} {meth : Method} {c : Code} {H H0 : Heap} {locs : List Loc} {cells slots : Nat} {Q : State → Prop}
variable {cc : ByteArray} {pc nL : Nat} {ls : Array Slot} {rest st0 : List Value} {D : va_G} {ca : Nat → ClassId} {A : Nat → Prop} {a : Nat} {ws wc wr w1 : va_W} {own : String} {idx : Nat} {y : MethodName} {b : ByteArray} {n k fr lo : Nat} {rt : Option FieldType} {As : List Value} {E : Int32}
theorem lv_tope {x z : Int32} (h : x = z) (k : W p l e R s m args below meth c H locs cells slots Q (F0 m pc ls (.int z :: rest))) : W p l e R s m args below meth c H locs cells slots Q (F0 m pc ls (.int x :: rest)) := by rw [h]; exact k
theorem w_pc {pc2 : Nat} (h : pc = pc2) (k : W p l e R s m args below meth c H locs cells slots Q (F0 m pc2 ls rest)) : W p l e R s m args below meth c H locs cells slots Q (F0 m pc ls rest) := by rw [h]; exact k
theorem RO.callV (S : CallFix p m c cc nL s args TB own) (hM : RO l y b n rt fr lo D ca (.ref a :: As) wc E) (h : CW own idx y b n rt k) (hP : va_P D classes ws H) (hK : va_K D classes (tys ca) s) (is : List Nat) (his : is.filterMap (fun i => ws[i]?) = wc) (q0 : Nat) {ci : Nat} {fs : List Value} (he : ws[q0]? = some (a, .inr (ci, fs))) (hC : (classes[ci]?).map (fun q => q.1) = some y.cls)
    (hk : As.length = k) (hst : st0 = As.reverse ++ .ref a :: rest) (hsz : ls.size = nL) (hR : fr + 1 ≤ R.frames ∧ 8 + (n + 11) + lo ≤ R.locals) (hc : cells ≤ R.cells ∧ slots ≤ R.slots) (hW : (rest.map fun v => v.category).sum ≤ 8) (hdg : decode cc pc = .ok (.invokevirtual idx, 3))
    (kk : W p l e R s m args below meth c H locs cells slots Q (F0 m (pc + 3) ls (.int E :: rest))) : W p l e R s m args below meth c H locs cells slots Q (F0 m pc ls st0) := by
  subst hst
  obtain ⟨q, hq, hqC⟩ := Option.map_eq_some_iff.mp hC
  have hrv := va_recv hK hP hq he
  rw [hqC] at hrv
  refine vp_callSi (rest := rest) (W.runV (C := y.cls) S hM (CW.cw S.2.2.2.2 h hR) ⟨fun a U g mk z => ⟨z.1, z.2.1, va_K.moved (u := U) (U := U.calling g mk a) (Vm.Alike.refl U.vm) z.2.2⟩, hrv, fun U hU hW => ⟨rfl, by rw [hU]; exact hP.sub is his, va_K.moved hW.alike hK⟩⟩ rfl hk hsz rfl (lv_room hW) hdg hc) (fun r hr => ?_)
  subst hr
  exact kk
theorem RO.callS (S : CallFix p m c cc nL s args TB own) (hM : RO l y b n rt fr lo D ca As [] E) (h : CS own idx y b n rt k) (hK : va_K D classes (tys ca) s)
    (hk : As.length = k) (hst : st0 = As.reverse ++ rest) (hsz : ls.size = nL) (hR : fr + 1 ≤ R.frames ∧ 8 + (n + 11) + lo ≤ R.locals) (hc : cells ≤ R.cells ∧ slots ≤ R.slots) (hW : (rest.map fun v => v.category).sum ≤ 8) (hdg : decode cc pc = .ok (.invokestatic idx, 3))
    (kk : W p l e R s m args below meth c H locs cells slots Q (F0 m (pc + 3) ls (.int E :: rest))) : W p l e R s m args below meth c H locs cells slots Q (F0 m pc ls st0) := by
  subst hst
  refine vp_callSi (rest := rest) (W.runS S hM (CS.cw S.2.2.2.2 h hR) ⟨fun a U g mk z => ⟨z.1, z.2.1, va_K.moved (u := U) (U := U.calling g mk a) (Vm.Alike.refl U.vm) z.2.2⟩, fun U hU hW => ⟨rfl, (fun k q hk => by simp at hk), va_K.moved hW.alike hK⟩⟩ rfl hk hsz rfl (lv_room hW) hdg hc) (fun r hr => ?_)
  subst hr
  exact kk
theorem MI.callV {w' : va_W} (S : CallFix p m c cc nL s args TB own) (hM : MI l y b n rt fr lo D ca (.ref a :: As) wc E w') (h : CW own idx y b n rt k) (hP : va_P D classes ws H) (hD : va_D A ws) (hS : va_S A H0 H locs) (hA : ∀ q, H0.size ≤ q → A q) (hK : va_K D classes (tys ca) s) (isC isR : List Nat) (hC1 : isC.map (fun i => ws[i]?) = wc.map some) (hR1 : isR.map (fun i => ws[i]?) = wr.map some) (hnC : va_nd isC = true) (hnR : va_nd isR = true) (hdis : ∀ i ∈ isR, i ∉ isC) (q0 : Nat) {ci : Nat} {fs : List Value} (he : ws[q0]? = some (a, .inr (ci, fs))) (hC : (classes[ci]?).map (fun q => q.1) = some y.cls)
    (hk : As.length = k) (hst : st0 = As.reverse ++ .ref a :: rest) (hsz : ls.size = nL) (hR : fr + 1 ≤ R.frames ∧ 8 + (n + 11) + lo ≤ R.locals) (hc : cells ≤ R.cells ∧ slots ≤ R.slots) (hW : (rest.map fun v => v.category).sum ≤ 8) (hdg : decode cc pc = .ok (.invokevirtual idx, 3))
    (kk : ∀ (H1 : Heap) (locs1 : List Loc), va_P D classes (wr ++ w') H1 → va_D A (wr ++ w') → va_S A H0 H1 locs1 → W p l e R s m args below meth c H1 locs1 cells slots Q (F0 m (pc + 3) ls (.int E :: rest))) : W p l e R s m args below meth c H locs cells slots Q (F0 m pc ls st0) := by
  subst hst
  obtain ⟨q, hq, hqC⟩ := Option.map_eq_some_iff.mp hC
  have hrv := va_recv hK hP hq he
  rw [hqC] at hrv
  have hFc := va_free (wc := wc) hD hS hA isC hC1
  refine va_calli (rest := rest) (va_runV (C := y.cls) S (hM H.size) (CW.cw S.2.2.2.2 h hR) ⟨fun a U g mk z => ⟨z.1, z.2.1, z.2.2.1, va_K.moved (u := U) (U := U.calling g mk a) (Vm.Alike.refl U.vm) z.2.2.2.1, z.2.2.2.2⟩, hrv, fun U hU hW => ⟨rfl, by rw [hU], by rw [hU]; exact hP.sub isC (fm_of hC1), va_K.moved hW.alike hK, (hD.sub isC hnC hC1).weaken (fun _ _ _ _ => trivial)⟩⟩ rfl hk hsz rfl (lv_room hW) hdg hc) hS (fun q _ h => hFc q h) hFc (fun r u t H1 locs1 ht hvm hr hB hz1 hk1 hS => ?_)
  obtain ⟨hP1, hD1⟩ := hB
  rw [ht] at hP1
  obtain ⟨hP, hD⟩ := va_join (wr := wr) (w1 := w') hP hD isC isR hC1 hR1 hnR hdis hk1 hFc hP1 hD1
  subst hr
  exact kk H1 locs1 hP hD hS
theorem MV.callV {w' : va_W} (S : CallFix p m c cc nL s args TB own) (hM : MV l y b n fr lo D ca (.ref a :: As) wc w') (h : CW own idx y b n none k) (hP : va_P D classes ws H) (hD : va_D A ws) (hS : va_S A H0 H locs) (hA : ∀ q, H0.size ≤ q → A q) (hK : va_K D classes (tys ca) s) (isC isR : List Nat) (hC1 : isC.map (fun i => ws[i]?) = wc.map some) (hR1 : isR.map (fun i => ws[i]?) = wr.map some) (hnC : va_nd isC = true) (hnR : va_nd isR = true) (hdis : ∀ i ∈ isR, i ∉ isC) (q0 : Nat) {ci : Nat} {fs : List Value} (he : ws[q0]? = some (a, .inr (ci, fs))) (hC : (classes[ci]?).map (fun q => q.1) = some y.cls)
    (hk : As.length = k) (hst : st0 = As.reverse ++ .ref a :: rest) (hsz : ls.size = nL) (hR : fr + 1 ≤ R.frames ∧ 8 + (n + 11) + lo ≤ R.locals) (hc : cells ≤ R.cells ∧ slots ≤ R.slots) (hW : (rest.map fun v => v.category).sum ≤ 8) (hdg : decode cc pc = .ok (.invokevirtual idx, 3))
    (kk : ∀ (H1 : Heap) (locs1 : List Loc), va_P D classes (wr ++ w') H1 → va_D A (wr ++ w') → va_S A H0 H1 locs1 → W p l e R s m args below meth c H1 locs1 cells slots Q (F0 m (pc + 3) ls rest)) : W p l e R s m args below meth c H locs cells slots Q (F0 m pc ls st0) := by
  subst hst
  obtain ⟨q, hq, hqC⟩ := Option.map_eq_some_iff.mp hC
  have hrv := va_recv hK hP hq he
  rw [hqC] at hrv
  have hFc := va_free (wc := wc) hD hS hA isC hC1
  refine va_callv (rest := rest) (va_runV (C := y.cls) S (hM H.size) (CW.cw S.2.2.2.2 h hR) ⟨fun a U g mk z => ⟨z.1, z.2.1, z.2.2.1, va_K.moved (u := U) (U := U.calling g mk a) (Vm.Alike.refl U.vm) z.2.2.2.1, z.2.2.2.2⟩, hrv, fun U hU hW => ⟨rfl, by rw [hU], by rw [hU]; exact hP.sub isC (fm_of hC1), va_K.moved hW.alike hK, (hD.sub isC hnC hC1).weaken (fun _ _ _ _ => trivial)⟩⟩ rfl hk hsz rfl (lv_room hW) hdg hc) hS (fun q _ h => hFc q h) hFc (fun u t H1 locs1 ht hvm hr hB hz1 hk1 hS => ?_)
  obtain ⟨hP1, hD1⟩ := hB
  rw [ht] at hP1
  obtain ⟨hP, hD⟩ := va_join (wr := wr) (w1 := w') hP hD isC isR hC1 hR1 hnR hdis hk1 hFc hP1 hD1
  exact kk H1 locs1 hP hD hS
/-- what the tables say of a class's fields -/
def ClsOK (ci : Nat) (C : String) (T : u_T) (t : Nat → FieldType) (N : Nat) : Prop := classes[ci]? = some (C, T, N) ∧ (∀ w ∈ u_ws C T N, w ∈ TB) ∧ (∀ k, k < N → parseFieldDescriptor (T k).2.2.1 = some (t k)) ∧ (∀ a, a < N → ∀ b, b < N → a ≠ b → (T a).2.1 ≠ (T b).2.1)
theorem f_get {ci N : Nat} {C : String} {T : u_T} {t : Nat → FieldType} {fs : List Value} {v : Value} (S : CallFix p m c cc nL s args TB own) (hcl : ClsOK ci C T t N) (hK : va_K D classes (tys ca) s) (hP : va_P D classes ws H) (q0 : Nat) (he : ws[q0]? = some (a, .inr (ci, fs))) (k : Nat) (hk : k < N) (hlink : Cond.fieldLink own idx C (T k).2.1 (T k).2.2.1 ∈ TB) (hr : (T k).1 = C) (hv : fs[k]? = some v) (hdg : decode cc pc = .ok (.getfield idx, 3))
    (kk : W p l e R s m args below meth c H locs cells slots Q (F0 m (pc + 3) ls (v :: rest))) : W p l e R s m args below meth c H locs cells slots Q (F0 m pc ls (.ref a :: rest)) :=
  va_get (D := D) S.1 S.2.1 S.2.2.2.2 hcl.2.1 S.2.2.2.1 hK hP q0 he hcl.1 k hk (S.2.2.2.2 _ hlink) (fun x hx => by rw [← hr]; exact hx) hv hdg kk
theorem f_put {ci N : Nat} {C : String} {T : u_T} {t : Nat → FieldType} {fs : List Value} {v : Value} (S : CallFix p m c cc nL s args TB own) (hcl : ClsOK ci C T t N) (hK : va_K D classes (tys ca) s) (hP : va_P D classes ws H) (hD : va_D A ws) (hS : va_S A H0 H locs) (q0 : Nat) (he : ws[q0]? = some (a, .inr (ci, fs))) (k : Nat) (hk : k < N) (hlink : Cond.fieldLink own idx C (T k).2.1 (T k).2.2.1 ∈ TB) (hr : (T k).1 = C) (hfin : (T k).2.2.2 = false) (hn : narrow (t k) v = v) (hfit : fits (t k) v = true) (hl : k < fs.length) (hdg : decode cc pc = .ok (.putfield idx, 3))
    (kk : ∀ (H1 : Heap) (locs1 : List Loc), va_P D classes (ws.set q0 (a, .inr (ci, fs.set k v))) H1 → va_D A (ws.set q0 (a, .inr (ci, fs.set k v))) → va_S A H0 H1 locs1 → W p l e R s m args below meth c H1 locs1 cells slots Q (F0 m (pc + 3) ls rest)) : W p l e R s m args below meth c H locs cells slots Q (F0 m pc ls (v :: .ref a :: rest)) :=
  va_put (D := D) S.1 S.2.1 S.2.2.2.2 hcl.2.1 t hcl.2.2.1 hcl.2.2.2 S.2.2.2.1 hK hP hD hS q0 he hcl.1 k hk (S.2.2.2.2 _ hlink) (fun x hx => by rw [← hr]; exact hx) hfin (hcl.2.2.1 k hk) hn hfit hl hdg kk
theorem f_putF {ci N : Nat} {C : String} {T : u_T} {t : Nat → FieldType} {fs : List Value} {v : Value} (S : CallFix p m c cc nL s args TB own) (hcl : ClsOK ci C T t N) (hK : va_K D classes (tys ca) s) (hP : va_P D classes ws H) (hD : va_D A ws) (hS : va_S A H0 H locs) (q0 : Nat) (he : ws[q0]? = some (a, .inr (ci, fs))) (k : Nat) (hk : k < N) (hlink : Cond.fieldLink own idx C (T k).2.1 (T k).2.2.1 ∈ TB) (hr : (T k).1 = C) (hfin : (T k).2.2.2 = true) (hin : meth.name = "<init>") (hown : (T k).1 = own) (hn : narrow (t k) v = v) (hfit : fits (t k) v = true) (hl : k < fs.length) (hdg : decode cc pc = .ok (.putfield idx, 3))
    (kk : ∀ (H1 : Heap) (locs1 : List Loc), va_P D classes (ws.set q0 (a, .inr (ci, fs.set k v))) H1 → va_D A (ws.set q0 (a, .inr (ci, fs.set k v))) → va_S A H0 H1 locs1 → W p l e R s m args below meth c H1 locs1 cells slots Q (F0 m (pc + 3) ls rest)) : W p l e R s m args below meth c H locs cells slots Q (F0 m pc ls (v :: .ref a :: rest)) :=
  va_putF (D := D) S.1 S.2.1 S.2.2.2.2 hcl.2.1 t hcl.2.2.1 hcl.2.2.2 S.2.2.2.1 hK hP hD hS q0 he hcl.1 k hk (S.2.2.2.2 _ hlink) (fun x hx => by rw [← hr]; exact hx) hfin hin hown (hcl.2.2.1 k hk) hn hfit hl hdg kk
end FW
end
section
theorem cw_E : (u_ws R_E F_E 8).all (fun w => decide (w ∈ lw_tbl) && goodWord w) = true := by decide +kernel
theorem cls_E : ClsOK 0 R_E F_E ty_E 8 := ⟨rfl, fun w hw => by
  have h := List.all_eq_true.mp cw_E w hw
  simp only [Bool.and_eq_true, decide_eq_true_eq] at h
  exact List.mem_filter.mpr h, by decide +kernel, by decide +kernel⟩
theorem cw_T : (u_ws R_T F_T 13).all (fun w => decide (w ∈ lw_tbl) && goodWord w) = true := by decide +kernel
theorem cls_T : ClsOK 1 R_T F_T ty_T 13 := ⟨rfl, fun w hw => by
  have h := List.all_eq_true.mp cw_T w hw
  simp only [Bool.and_eq_true, decide_eq_true_eq] at h
  exact List.mem_filter.mpr h, by decide +kernel, by decide +kernel⟩
theorem cw_P : (u_ws R_P F_P 2).all (fun w => decide (w ∈ lw_tbl) && goodWord w) = true := by decide +kernel
theorem cls_P : ClsOK 2 R_P F_P ty_P 2 := ⟨rfl, fun w hw => by
  have h := List.all_eq_true.mp cw_P w hw
  simp only [Bool.and_eq_true, decide_eq_true_eq] at h
  exact List.mem_filter.mpr h, by decide +kernel, by decide +kernel⟩
theorem cw_R : (u_ws R_R F_R 8).all (fun w => decide (w ∈ lw_tbl) && goodWord w) = true := by decide +kernel
theorem cls_R : ClsOK 3 R_R F_R ty_R 8 := ⟨rfl, fun w hw => by
  have h := List.all_eq_true.mp cw_R w hw
  simp only [Bool.and_eq_true, decide_eq_true_eq] at h
  exact List.mem_filter.mpr h, by decide +kernel, by decide +kernel⟩
theorem cw_M : (u_ws R_M F_M 13).all (fun w => decide (w ∈ lw_tbl) && goodWord w) = true := by decide +kernel
theorem cls_M : ClsOK 4 R_M F_M ty_M 13 := ⟨rfl, fun w hw => by
  have h := List.all_eq_true.mp cw_M w hw
  simp only [Bool.and_eq_true, decide_eq_true_eq] at h
  exact List.mem_filter.mpr h, by decide +kernel, by decide +kernel⟩
theorem in_L : Cond.initialized "TapeEndsLaw" ∈ TB := tb_mem 52 (by decide +kernel) rfl
theorem in_E : Cond.initialized "TapeEnds" ∈ TB := tb_mem 53 (by decide +kernel) rfl
theorem in_T : Cond.initialized "TapeEnds$Tape" ∈ TB := tb_mem 54 (by decide +kernel) rfl
theorem in_P : Cond.initialized "TapeEnds$Pad" ∈ TB := tb_mem 55 (by decide +kernel) rfl
theorem in_R : Cond.initialized "TapeEnds$OrderReader" ∈ TB := tb_mem 56 (by decide +kernel) rfl
theorem in_M : Cond.initialized "TapeEndsModel" ∈ TB := tb_mem 57 (by decide +kernel) rfl
theorem in_java_lang_System : Cond.initialized "java/lang/System" ∈ TB := tb_mem 58 (by decide +kernel) rfl
theorem in_java_lang_Math : Cond.initialized "java/lang/Math" ∈ TB := tb_mem 59 (by decide +kernel) rfl
theorem cl_L_7 : Cond.classLink "TapeEndsLaw" 7 "TapeEnds" ∈ TB := tb_mem 60 (by decide +kernel) rfl
theorem is_E : Cond.instantiable "TapeEnds" 8 ∈ TB := tb_mem 61 (by decide +kernel) rfl
theorem cl_E_7 : Cond.classLink "TapeEnds" 7 "TapeEnds$Tape" ∈ TB := tb_mem 68 (by decide +kernel) rfl
theorem is_T : Cond.instantiable "TapeEnds$Tape" 13 ∈ TB := tb_mem 69 (by decide +kernel) rfl
theorem fl_T_feet : Cond.fieldLink R_T 9 R_T "feet" "I" ∈ TB := tb_mem 74 (by decide +kernel) rfl
theorem fl_T_leastGap : Cond.fieldLink R_T 15 R_T "leastGap" "I" ∈ TB := tb_mem 75 (by decide +kernel) rfl
theorem fl_T_mark : Cond.fieldLink R_T 18 R_T "mark" "I" ∈ TB := tb_mem 76 (by decide +kernel) rfl
theorem fl_T_head : Cond.fieldLink R_T 21 R_T "head" "I" ∈ TB := tb_mem 77 (by decide +kernel) rfl
theorem fl_T_splices : Cond.fieldLink R_T 24 R_T "splices" "I" ∈ TB := tb_mem 78 (by decide +kernel) rfl
theorem fl_T_feetTakenOut : Cond.fieldLink R_T 27 R_T "feetTakenOut" "I" ∈ TB := tb_mem 79 (by decide +kernel) rfl
theorem fl_T_travel : Cond.fieldLink R_T 30 R_T "travel" "I" ∈ TB := tb_mem 80 (by decide +kernel) rfl
theorem fl_T_blocksRead : Cond.fieldLink R_T 33 R_T "blocksRead" "I" ∈ TB := tb_mem 81 (by decide +kernel) rfl
theorem fl_T_blocks : Cond.fieldLink R_T 36 R_T "blocks" "[I" ∈ TB := tb_mem 82 (by decide +kernel) rfl
theorem fl_T_data : Cond.fieldLink R_T 40 R_T "data" "[I" ∈ TB := tb_mem 83 (by decide +kernel) rfl
theorem fl_T_sums : Cond.fieldLink R_T 43 R_T "sums" "[I" ∈ TB := tb_mem 84 (by decide +kernel) rfl
theorem fl_T_marks : Cond.fieldLink R_T 46 R_T "marks" "[I" ∈ TB := tb_mem 85 (by decide +kernel) rfl
theorem fl_T_timesRead : Cond.fieldLink R_T 49 R_T "timesRead" "[I" ∈ TB := tb_mem 86 (by decide +kernel) rfl
theorem ac_int : Cond.arrayClass .int ∈ TB := tb_mem 114 (by decide +kernel) rfl
theorem cl_E_30 : Cond.classLink "TapeEnds" 30 "TapeEnds$Pad" ∈ TB := tb_mem 116 (by decide +kernel) rfl
theorem is_P : Cond.instantiable "TapeEnds$Pad" 2 ∈ TB := tb_mem 117 (by decide +kernel) rfl
theorem fl_P_text : Cond.fieldLink R_P 11 R_P "text" "[C" ∈ TB := tb_mem 122 (by decide +kernel) rfl
theorem fl_P_size : Cond.fieldLink R_P 15 R_P "size" "I" ∈ TB := tb_mem 123 (by decide +kernel) rfl
theorem ac_boolean : Cond.arrayClass .boolean ∈ TB := tb_mem 129 (by decide +kernel) rfl
theorem ac_char : Cond.arrayClass .char ∈ TB := tb_mem 130 (by decide +kernel) rfl
theorem cl_E_37 : Cond.classLink "TapeEnds" 37 "TapeEnds$OrderReader" ∈ TB := tb_mem 131 (by decide +kernel) rfl
theorem is_R : Cond.instantiable "TapeEnds$OrderReader" 8 ∈ TB := tb_mem 132 (by decide +kernel) rfl
theorem fl_R_pad : Cond.fieldLink R_R 11 R_R "pad" "LTapeEnds$Pad;" ∈ TB := tb_mem 137 (by decide +kernel) rfl
theorem fl_R_position : Cond.fieldLink R_R 17 R_R "position" "I" ∈ TB := tb_mem 138 (by decide +kernel) rfl
theorem fl_R_failed : Cond.fieldLink R_R 21 R_R "failed" "Z" ∈ TB := tb_mem 139 (by decide +kernel) rfl
theorem fl_R_kind : Cond.fieldLink R_R 46 R_R "kind" "C" ∈ TB := tb_mem 140 (by decide +kernel) rfl
theorem fl_R_file : Cond.fieldLink R_R 50 R_R "file" "I" ∈ TB := tb_mem 141 (by decide +kernel) rfl
theorem fl_R_number : Cond.fieldLink R_R 53 R_R "number" "I" ∈ TB := tb_mem 142 (by decide +kernel) rfl
theorem fl_R_sum : Cond.fieldLink R_R 56 R_R "sum" "I" ∈ TB := tb_mem 143 (by decide +kernel) rfl
theorem fl_R_backwards : Cond.fieldLink R_R 65 R_R "backwards" "I" ∈ TB := tb_mem 144 (by decide +kernel) rfl
theorem fl_E_past : Cond.fieldLink R_E 19 R_E "past" "[LTapeEnds$Tape;" ∈ TB := tb_mem 162 (by decide +kernel) rfl
theorem fl_E_slots : Cond.fieldLink R_E 23 R_E "slots" "[LTapeEnds$Tape;" ∈ TB := tb_mem 163 (by decide +kernel) rfl
theorem fl_E_saved : Cond.fieldLink R_E 26 R_E "saved" "[Z" ∈ TB := tb_mem 164 (by decide +kernel) rfl
theorem fl_E_pad : Cond.fieldLink R_E 33 R_E "pad" "LTapeEnds$Pad;" ∈ TB := tb_mem 165 (by decide +kernel) rfl
theorem fl_E_reader : Cond.fieldLink R_E 42 R_E "reader" "LTapeEnds$OrderReader;" ∈ TB := tb_mem 166 (by decide +kernel) rfl
theorem fl_E_tape : Cond.fieldLink R_E 10 R_E "tape" "LTapeEnds$Tape;" ∈ TB := tb_mem 167 (by decide +kernel) rfl
theorem fl_E_before : Cond.fieldLink R_E 16 R_E "before" "LTapeEnds$Tape;" ∈ TB := tb_mem 168 (by decide +kernel) rfl
theorem fl_E_pastCount : Cond.fieldLink R_E 46 R_E "pastCount" "I" ∈ TB := tb_mem 169 (by decide +kernel) rfl
theorem ct_T_105 : Cond.constant "TapeEnds$Tape" 105 (1000000000 : Int32) ∈ TB := tb_mem 264 (by decide +kernel) rfl
theorem ct_P_23 : Cond.constantLong "TapeEnds$Pad" 23 (255 : Int64) ∈ TB := tb_mem 408 (by decide +kernel) rfl
theorem ct_P_25 : Cond.constantLong "TapeEnds$Pad" 25 (33 : Int64) ∈ TB := tb_mem 409 (by decide +kernel) rfl
theorem ct_P_27 : Cond.constantLong "TapeEnds$Pad" 27 (126 : Int64) ∈ TB := tb_mem 410 (by decide +kernel) rfl
theorem cl_L_10 : Cond.classLink "TapeEndsLaw" 10 "TapeEndsModel" ∈ TB := tb_mem 501 (by decide +kernel) rfl
theorem is_M : Cond.instantiable "TapeEndsModel" 13 ∈ TB := tb_mem 502 (by decide +kernel) rfl
theorem fl_M_s : Cond.fieldLink R_M 7 R_M "s" "[I" ∈ TB := tb_mem 507 (by decide +kernel) rfl
theorem fl_M_before : Cond.fieldLink R_M 13 R_M "before" "[I" ∈ TB := tb_mem 508 (by decide +kernel) rfl
theorem fl_M_known : Cond.fieldLink R_M 34 R_M "known" "I" ∈ TB := tb_mem 509 (by decide +kernel) rfl
theorem fl_M_slots : Cond.fieldLink R_M 16 R_M "slots" "[I" ∈ TB := tb_mem 510 (by decide +kernel) rfl
theorem fl_M_isSaved : Cond.fieldLink R_M 19 R_M "isSaved" "[Z" ∈ TB := tb_mem 511 (by decide +kernel) rfl
theorem fl_M_pad : Cond.fieldLink R_M 23 R_M "pad" "[I" ∈ TB := tb_mem 512 (by decide +kernel) rfl
theorem fl_M_padLength : Cond.fieldLink R_M 118 R_M "padLength" "I" ∈ TB := tb_mem 513 (by decide +kernel) rfl
theorem fl_M_place : Cond.fieldLink R_M 123 R_M "place" "I" ∈ TB := tb_mem 514 (by decide +kernel) rfl
theorem fl_M_isWrong : Cond.fieldLink R_M 126 R_M "isWrong" "Z" ∈ TB := tb_mem 515 (by decide +kernel) rfl
theorem fl_M_letter : Cond.fieldLink R_M 136 R_M "letter" "I" ∈ TB := tb_mem 516 (by decide +kernel) rfl
theorem fl_M_one : Cond.fieldLink R_M 139 R_M "one" "I" ∈ TB := tb_mem 517 (by decide +kernel) rfl
theorem fl_M_two : Cond.fieldLink R_M 145 R_M "two" "I" ∈ TB := tb_mem 518 (by decide +kernel) rfl
theorem fl_M_three : Cond.fieldLink R_M 148 R_M "three" "I" ∈ TB := tb_mem 519 (by decide +kernel) rfl
theorem ct_M_62 : Cond.constant "TapeEndsModel" 62 (1000000000 : Int32) ∈ TB := tb_mem 607 (by decide +kernel) rfl
theorem ct_M_121 : Cond.constantLong "TapeEndsModel" 121 (255 : Int64) ∈ TB := tb_mem 712 (by decide +kernel) rfl
theorem ct_L_77 : Cond.constantLong "TapeEndsLaw" 77 (4294967295 : Int64) ∈ TB := tb_mem 761 (by decide +kernel) rfl
abbrev b_E_init : ByteArray := prog_1_method_1_code
abbrev y_E_init : MethodName := ⟨"TapeEnds", "<init>", "()V"⟩
theorem mc_E_init : Cond.code y_E_init b_E_init 2 none ∈ TB := tb_mem 64 (by decide +kernel) rfl
theorem mi_E_init : Cond.instanceMethod y_E_init ∈ TB := tb_mem 63 (by decide +kernel) rfl
abbrev b_E_length : ByteArray := prog_1_method_2_code
abbrev y_E_length : MethodName := ⟨"TapeEnds", "length", "(I)I"⟩
theorem mc_E_length : Cond.code y_E_length b_E_length 2 (some .int) ∈ TB := tb_mem 190 (by decide +kernel) rfl
theorem ms_E_length : Cond.selects y_E_length.cls y_E_length y_E_length ∈ TB := tb_mem 189 (by decide +kernel) rfl
theorem mi_E_length : Cond.instanceMethod y_E_length ∈ TB := tb_mem 188 (by decide +kernel) rfl
abbrev b_E_tune : ByteArray := prog_1_method_3_code
abbrev y_E_tune : MethodName := ⟨"TapeEnds", "tune", "(II)I"⟩
theorem mc_E_tune : Cond.code y_E_tune b_E_tune 3 (some .int) ∈ TB := tb_mem 220 (by decide +kernel) rfl
theorem ms_E_tune : Cond.selects y_E_tune.cls y_E_tune y_E_tune ∈ TB := tb_mem 219 (by decide +kernel) rfl
theorem mi_E_tune : Cond.instanceMethod y_E_tune ∈ TB := tb_mem 218 (by decide +kernel) rfl
abbrev b_E_write : ByteArray := prog_1_method_4_code
abbrev y_E_write : MethodName := ⟨"TapeEnds", "write", "(III)I"⟩
theorem mc_E_write : Cond.code y_E_write b_E_write 4 (some .int) ∈ TB := tb_mem 244 (by decide +kernel) rfl
theorem ms_E_write : Cond.selects y_E_write.cls y_E_write y_E_write ∈ TB := tb_mem 243 (by decide +kernel) rfl
theorem mi_E_write : Cond.instanceMethod y_E_write ∈ TB := tb_mem 242 (by decide +kernel) rfl
abbrev b_E_cut : ByteArray := prog_1_method_5_code
abbrev y_E_cut : MethodName := ⟨"TapeEnds", "cut", "(II)I"⟩
theorem mc_E_cut : Cond.code y_E_cut b_E_cut 3 (some .int) ∈ TB := tb_mem 268 (by decide +kernel) rfl
theorem ms_E_cut : Cond.selects y_E_cut.cls y_E_cut y_E_cut ∈ TB := tb_mem 267 (by decide +kernel) rfl
theorem mi_E_cut : Cond.instanceMethod y_E_cut ∈ TB := tb_mem 266 (by decide +kernel) rfl
abbrev b_E_move : ByteArray := prog_1_method_6_code
abbrev y_E_move : MethodName := ⟨"TapeEnds", "move", "(I)I"⟩
theorem mc_E_move : Cond.code y_E_move b_E_move 2 (some .int) ∈ TB := tb_mem 276 (by decide +kernel) rfl
theorem ms_E_move : Cond.selects y_E_move.cls y_E_move y_E_move ∈ TB := tb_mem 275 (by decide +kernel) rfl
theorem mi_E_move : Cond.instanceMethod y_E_move ∈ TB := tb_mem 274 (by decide +kernel) rfl
abbrev b_E_rewind : ByteArray := prog_1_method_7_code
abbrev y_E_rewind : MethodName := ⟨"TapeEnds", "rewind", "()I"⟩
theorem mc_E_rewind : Cond.code y_E_rewind b_E_rewind 1 (some .int) ∈ TB := tb_mem 284 (by decide +kernel) rfl
theorem ms_E_rewind : Cond.selects y_E_rewind.cls y_E_rewind y_E_rewind ∈ TB := tb_mem 283 (by decide +kernel) rfl
theorem mi_E_rewind : Cond.instanceMethod y_E_rewind ∈ TB := tb_mem 282 (by decide +kernel) rfl
abbrev b_E_read : ByteArray := prog_1_method_8_code
abbrev y_E_read : MethodName := ⟨"TapeEnds", "read", "(III)I"⟩
theorem mc_E_read : Cond.code y_E_read b_E_read 4 (some .int) ∈ TB := tb_mem 292 (by decide +kernel) rfl
theorem ms_E_read : Cond.selects y_E_read.cls y_E_read y_E_read ∈ TB := tb_mem 291 (by decide +kernel) rfl
theorem mi_E_read : Cond.instanceMethod y_E_read ∈ TB := tb_mem 290 (by decide +kernel) rfl
abbrev b_E_splice : ByteArray := prog_1_method_9_code
abbrev y_E_splice : MethodName := ⟨"TapeEnds", "splice", "(II)I"⟩
theorem mc_E_splice : Cond.code y_E_splice b_E_splice 3 (some .int) ∈ TB := tb_mem 312 (by decide +kernel) rfl
theorem ms_E_splice : Cond.selects y_E_splice.cls y_E_splice y_E_splice ∈ TB := tb_mem 311 (by decide +kernel) rfl
theorem mi_E_splice : Cond.instanceMethod y_E_splice ∈ TB := tb_mem 310 (by decide +kernel) rfl
abbrev b_E_ofFile : ByteArray := prog_1_method_10_code
abbrev y_E_ofFile : MethodName := ⟨"TapeEnds", "ofFile", "(II)I"⟩
theorem mc_E_ofFile : Cond.code y_E_ofFile b_E_ofFile 3 (some .int) ∈ TB := tb_mem 331 (by decide +kernel) rfl
theorem ms_E_ofFile : Cond.selects y_E_ofFile.cls y_E_ofFile y_E_ofFile ∈ TB := tb_mem 330 (by decide +kernel) rfl
theorem mi_E_ofFile : Cond.instanceMethod y_E_ofFile ∈ TB := tb_mem 329 (by decide +kernel) rfl
abbrev b_E_ofBlock : ByteArray := prog_1_method_11_code
abbrev y_E_ofBlock : MethodName := ⟨"TapeEnds", "ofBlock", "(III)I"⟩
theorem mc_E_ofBlock : Cond.code y_E_ofBlock b_E_ofBlock 4 (some .int) ∈ TB := tb_mem 343 (by decide +kernel) rfl
theorem ms_E_ofBlock : Cond.selects y_E_ofBlock.cls y_E_ofBlock y_E_ofBlock ∈ TB := tb_mem 342 (by decide +kernel) rfl
theorem mi_E_ofBlock : Cond.instanceMethod y_E_ofBlock ∈ TB := tb_mem 341 (by decide +kernel) rfl
abbrev b_E_at : ByteArray := prog_1_method_12_code
abbrev y_E_at : MethodName := ⟨"TapeEnds", "at", "(I)I"⟩
theorem mc_E_at : Cond.code y_E_at b_E_at 2 (some .int) ∈ TB := tb_mem 355 (by decide +kernel) rfl
theorem ms_E_at : Cond.selects y_E_at.cls y_E_at y_E_at ∈ TB := tb_mem 354 (by decide +kernel) rfl
theorem mi_E_at : Cond.instanceMethod y_E_at ∈ TB := tb_mem 353 (by decide +kernel) rfl
abbrev b_E_count : ByteArray := prog_1_method_13_code
abbrev y_E_count : MethodName := ⟨"TapeEnds", "count", "(I)I"⟩
theorem mc_E_count : Cond.code y_E_count b_E_count 2 (some .int) ∈ TB := tb_mem 363 (by decide +kernel) rfl
theorem ms_E_count : Cond.selects y_E_count.cls y_E_count y_E_count ∈ TB := tb_mem 362 (by decide +kernel) rfl
theorem mi_E_count : Cond.instanceMethod y_E_count ∈ TB := tb_mem 361 (by decide +kernel) rfl
abbrev b_E_fits : ByteArray := prog_1_method_14_code
abbrev y_E_fits : MethodName := ⟨"TapeEnds", "fits", "(I)I"⟩
theorem mc_E_fits : Cond.code y_E_fits b_E_fits 2 (some .int) ∈ TB := tb_mem 375 (by decide +kernel) rfl
theorem ms_E_fits : Cond.selects y_E_fits.cls y_E_fits y_E_fits ∈ TB := tb_mem 374 (by decide +kernel) rfl
theorem mi_E_fits : Cond.instanceMethod y_E_fits ∈ TB := tb_mem 373 (by decide +kernel) rfl
abbrev b_E_rooms : ByteArray := prog_1_method_15_code
abbrev y_E_rooms : MethodName := ⟨"TapeEnds", "rooms", "(I)I"⟩
theorem mc_E_rooms : Cond.code y_E_rooms b_E_rooms 2 (some .int) ∈ TB := tb_mem 383 (by decide +kernel) rfl
theorem ms_E_rooms : Cond.selects y_E_rooms.cls y_E_rooms y_E_rooms ∈ TB := tb_mem 382 (by decide +kernel) rfl
theorem mi_E_rooms : Cond.instanceMethod y_E_rooms ∈ TB := tb_mem 381 (by decide +kernel) rfl
abbrev b_E_nearest : ByteArray := prog_1_method_16_code
abbrev y_E_nearest : MethodName := ⟨"TapeEnds", "nearest", "(I)I"⟩
theorem mc_E_nearest : Cond.code y_E_nearest b_E_nearest 2 (some .int) ∈ TB := tb_mem 391 (by decide +kernel) rfl
theorem ms_E_nearest : Cond.selects y_E_nearest.cls y_E_nearest y_E_nearest ∈ TB := tb_mem 390 (by decide +kernel) rfl
theorem mi_E_nearest : Cond.instanceMethod y_E_nearest ∈ TB := tb_mem 389 (by decide +kernel) rfl
abbrev b_E_put : ByteArray := prog_1_method_17_code
abbrev y_E_put : MethodName := ⟨"TapeEnds", "put", "(J)I"⟩
theorem mc_E_put : Cond.code y_E_put b_E_put 3 (some .int) ∈ TB := tb_mem 399 (by decide +kernel) rfl
theorem ms_E_put : Cond.selects y_E_put.cls y_E_put y_E_put ∈ TB := tb_mem 398 (by decide +kernel) rfl
theorem mi_E_put : Cond.instanceMethod y_E_put ∈ TB := tb_mem 397 (by decide +kernel) rfl
abbrev b_E_wipe : ByteArray := prog_1_method_18_code
abbrev y_E_wipe : MethodName := ⟨"TapeEnds", "wipe", "()I"⟩
theorem mc_E_wipe : Cond.code y_E_wipe b_E_wipe 1 (some .int) ∈ TB := tb_mem 414 (by decide +kernel) rfl
theorem ms_E_wipe : Cond.selects y_E_wipe.cls y_E_wipe y_E_wipe ∈ TB := tb_mem 413 (by decide +kernel) rfl
theorem mi_E_wipe : Cond.instanceMethod y_E_wipe ∈ TB := tb_mem 412 (by decide +kernel) rfl
abbrev b_E_fault : ByteArray := prog_1_method_19_code
abbrev y_E_fault : MethodName := ⟨"TapeEnds", "fault", "()I"⟩
theorem mc_E_fault : Cond.code y_E_fault b_E_fault 1 (some .int) ∈ TB := tb_mem 422 (by decide +kernel) rfl
theorem ms_E_fault : Cond.selects y_E_fault.cls y_E_fault y_E_fault ∈ TB := tb_mem 421 (by decide +kernel) rfl
theorem mi_E_fault : Cond.instanceMethod y_E_fault ∈ TB := tb_mem 420 (by decide +kernel) rfl
abbrev b_E_carryOut : ByteArray := prog_1_method_20_code
abbrev y_E_carryOut : MethodName := ⟨"TapeEnds", "carryOut", "()I"⟩
theorem mc_E_carryOut : Cond.code y_E_carryOut b_E_carryOut 2 (some .int) ∈ TB := tb_mem 471 (by decide +kernel) rfl
theorem ms_E_carryOut : Cond.selects y_E_carryOut.cls y_E_carryOut y_E_carryOut ∈ TB := tb_mem 470 (by decide +kernel) rfl
theorem mi_E_carryOut : Cond.instanceMethod y_E_carryOut ∈ TB := tb_mem 469 (by decide +kernel) rfl
abbrev b_E_carryOutOrders : ByteArray := prog_1_method_21_code
abbrev y_E_carryOutOrders : MethodName := ⟨"TapeEnds", "carryOutOrders", "()I"⟩
theorem mc_E_carryOutOrders : Cond.code y_E_carryOutOrders b_E_carryOutOrders 2 (some .int) ∈ TB := tb_mem 475 (by decide +kernel) rfl
theorem ms_E_carryOutOrders : Cond.selects y_E_carryOutOrders.cls y_E_carryOutOrders y_E_carryOutOrders ∈ TB := tb_mem 23 (by decide +kernel) rfl
theorem mi_E_carryOutOrders : Cond.instanceMethod y_E_carryOutOrders ∈ TB := tb_mem 474 (by decide +kernel) rfl
abbrev b_E_undo : ByteArray := prog_1_method_22_code
abbrev y_E_undo : MethodName := ⟨"TapeEnds", "undo", "()I"⟩
theorem mc_E_undo : Cond.code y_E_undo b_E_undo 1 (some .int) ∈ TB := tb_mem 491 (by decide +kernel) rfl
theorem ms_E_undo : Cond.selects y_E_undo.cls y_E_undo y_E_undo ∈ TB := tb_mem 490 (by decide +kernel) rfl
theorem mi_E_undo : Cond.instanceMethod y_E_undo ∈ TB := tb_mem 489 (by decide +kernel) rfl
abbrev b_E_save : ByteArray := prog_1_method_23_code
abbrev y_E_save : MethodName := ⟨"TapeEnds", "save", "(I)I"⟩
theorem mc_E_save : Cond.code y_E_save b_E_save 2 (some .int) ∈ TB := tb_mem 495 (by decide +kernel) rfl
theorem ms_E_save : Cond.selects y_E_save.cls y_E_save y_E_save ∈ TB := tb_mem 494 (by decide +kernel) rfl
theorem mi_E_save : Cond.instanceMethod y_E_save ∈ TB := tb_mem 493 (by decide +kernel) rfl
abbrev b_E_restore : ByteArray := prog_1_method_24_code
abbrev y_E_restore : MethodName := ⟨"TapeEnds", "restore", "(I)I"⟩
theorem mc_E_restore : Cond.code y_E_restore b_E_restore 2 (some .int) ∈ TB := tb_mem 500 (by decide +kernel) rfl
theorem ms_E_restore : Cond.selects y_E_restore.cls y_E_restore y_E_restore ∈ TB := tb_mem 499 (by decide +kernel) rfl
theorem mi_E_restore : Cond.instanceMethod y_E_restore ∈ TB := tb_mem 498 (by decide +kernel) rfl
abbrev b_E_recorded : ByteArray := prog_1_method_25_code
abbrev y_E_recorded : MethodName := ⟨"TapeEnds", "recorded", "(I)I"⟩
theorem mc_E_recorded : Cond.code y_E_recorded b_E_recorded 3 (some .int) ∈ TB := tb_mem 212 (by decide +kernel) rfl
theorem ms_E_recorded : Cond.selects y_E_recorded.cls y_E_recorded y_E_recorded ∈ TB := tb_mem 0 (by decide +kernel) rfl
theorem mi_E_recorded : Cond.instanceMethod y_E_recorded ∈ TB := tb_mem 211 (by decide +kernel) rfl
abbrev b_E_dropOldest : ByteArray := prog_1_method_26_code
abbrev y_E_dropOldest : MethodName := ⟨"TapeEnds", "dropOldest", "()V"⟩
theorem mc_E_dropOldest : Cond.code y_E_dropOldest b_E_dropOldest 3 none ∈ TB := tb_mem 216 (by decide +kernel) rfl
theorem ms_E_dropOldest : Cond.selects y_E_dropOldest.cls y_E_dropOldest y_E_dropOldest ∈ TB := tb_mem 1 (by decide +kernel) rfl
theorem mi_E_dropOldest : Cond.instanceMethod y_E_dropOldest ∈ TB := tb_mem 215 (by decide +kernel) rfl
abbrev b_M_init : ByteArray := prog_6_method_1_code
abbrev y_M_init : MethodName := ⟨"TapeEndsModel", "<init>", "()V"⟩
theorem mc_M_init : Cond.code y_M_init b_M_init 1 none ∈ TB := tb_mem 505 (by decide +kernel) rfl
theorem mi_M_init : Cond.instanceMethod y_M_init ∈ TB := tb_mem 504 (by decide +kernel) rfl
abbrev b_M_in : ByteArray := prog_6_method_3_code
abbrev y_M_in : MethodName := ⟨"TapeEndsModel", "in", "(III)Z"⟩
theorem mc_M_in : Cond.code y_M_in b_M_in 3 (some .boolean) ∈ TB := tb_mem 553 (by decide +kernel) rfl
theorem mz_M_in : Cond.static y_M_in ∈ TB := tb_mem 552 (by decide +kernel) rfl
abbrev b_M_isFile : ByteArray := prog_6_method_4_code
abbrev y_M_isFile : MethodName := ⟨"TapeEndsModel", "isFile", "(I)Z"⟩
theorem mc_M_isFile : Cond.code y_M_isFile b_M_isFile 1 (some .boolean) ∈ TB := tb_mem 595 (by decide +kernel) rfl
theorem mz_M_isFile : Cond.static y_M_isFile ∈ TB := tb_mem 594 (by decide +kernel) rfl
abbrev b_M_isBlock : ByteArray := prog_6_method_5_code
abbrev y_M_isBlock : MethodName := ⟨"TapeEndsModel", "isBlock", "(II)Z"⟩
theorem mc_M_isBlock : Cond.code y_M_isBlock b_M_isBlock 3 (some .boolean) ∈ TB := tb_mem 647 (by decide +kernel) rfl
theorem ms_M_isBlock : Cond.selects y_M_isBlock.cls y_M_isBlock y_M_isBlock ∈ TB := tb_mem 38 (by decide +kernel) rfl
theorem mi_M_isBlock : Cond.instanceMethod y_M_isBlock ∈ TB := tb_mem 646 (by decide +kernel) rfl
abbrev b_M_of : ByteArray := prog_6_method_6_code
abbrev y_M_of : MethodName := ⟨"TapeEndsModel", "of", "(III)I"⟩
theorem mc_M_of : Cond.code y_M_of b_M_of 3 (some .int) ∈ TB := tb_mem 584 (by decide +kernel) rfl
theorem mz_M_of : Cond.static y_M_of ∈ TB := tb_mem 583 (by decide +kernel) rfl
abbrev b_M_apart : ByteArray := prog_6_method_7_code
abbrev y_M_apart : MethodName := ⟨"TapeEndsModel", "apart", "(II)I"⟩
theorem mc_M_apart : Cond.code y_M_apart b_M_apart 2 (some .int) ∈ TB := tb_mem 606 (by decide +kernel) rfl
theorem mz_M_apart : Cond.static y_M_apart ∈ TB := tb_mem 605 (by decide +kernel) rfl
abbrev b_M_know : ByteArray := prog_6_method_8_code
abbrev y_M_know : MethodName := ⟨"TapeEndsModel", "know", "()V"⟩
theorem mc_M_know : Cond.code y_M_know b_M_know 2 none ∈ TB := tb_mem 557 (by decide +kernel) rfl
theorem ms_M_know : Cond.selects y_M_know.cls y_M_know y_M_know ∈ TB := tb_mem 24 (by decide +kernel) rfl
theorem mi_M_know : Cond.instanceMethod y_M_know ∈ TB := tb_mem 556 (by decide +kernel) rfl
abbrev b_M_whole : ByteArray := prog_6_method_9_code
abbrev y_M_whole : MethodName := ⟨"TapeEndsModel", "whole", "(II)I"⟩
theorem mc_M_whole : Cond.code y_M_whole b_M_whole 3 (some .int) ∈ TB := tb_mem 581 (by decide +kernel) rfl
theorem ms_M_whole : Cond.selects y_M_whole.cls y_M_whole y_M_whole ∈ TB := tb_mem 29 (by decide +kernel) rfl
theorem mi_M_whole : Cond.instanceMethod y_M_whole ∈ TB := tb_mem 580 (by decide +kernel) rfl
abbrev b_M_feet : ByteArray := prog_6_method_10_code
abbrev y_M_feet : MethodName := ⟨"TapeEndsModel", "feet", "(II)I"⟩
theorem mc_M_feet : Cond.code y_M_feet b_M_feet 5 (some .int) ∈ TB := tb_mem 577 (by decide +kernel) rfl
theorem ms_M_feet : Cond.selects y_M_feet.cls y_M_feet y_M_feet ∈ TB := tb_mem 28 (by decide +kernel) rfl
theorem mi_M_feet : Cond.instanceMethod y_M_feet ∈ TB := tb_mem 576 (by decide +kernel) rfl
abbrev b_M_allFeet : ByteArray := prog_6_method_11_code
abbrev y_M_allFeet : MethodName := ⟨"TapeEndsModel", "allFeet", "(I)I"⟩
theorem mc_M_allFeet : Cond.code y_M_allFeet b_M_allFeet 2 (some .int) ∈ TB := tb_mem 573 (by decide +kernel) rfl
theorem ms_M_allFeet : Cond.selects y_M_allFeet.cls y_M_allFeet y_M_allFeet ∈ TB := tb_mem 27 (by decide +kernel) rfl
theorem mi_M_allFeet : Cond.instanceMethod y_M_allFeet ∈ TB := tb_mem 572 (by decide +kernel) rfl
abbrev b_M_end : ByteArray := prog_6_method_12_code
abbrev y_M_end : MethodName := ⟨"TapeEndsModel", "end", "(I)I"⟩
theorem mc_M_end : Cond.code y_M_end b_M_end 2 (some .int) ∈ TB := tb_mem 569 (by decide +kernel) rfl
theorem ms_M_end : Cond.selects y_M_end.cls y_M_end y_M_end ∈ TB := tb_mem 26 (by decide +kernel) rfl
theorem mi_M_end : Cond.instanceMethod y_M_end ∈ TB := tb_mem 568 (by decide +kernel) rfl
abbrev b_M_gap : ByteArray := prog_6_method_13_code
abbrev y_M_gap : MethodName := ⟨"TapeEndsModel", "gap", "()I"⟩
theorem mc_M_gap : Cond.code y_M_gap b_M_gap 1 (some .int) ∈ TB := tb_mem 565 (by decide +kernel) rfl
theorem ms_M_gap : Cond.selects y_M_gap.cls y_M_gap y_M_gap ∈ TB := tb_mem 25 (by decide +kernel) rfl
theorem mi_M_gap : Cond.instanceMethod y_M_gap ∈ TB := tb_mem 564 (by decide +kernel) rfl
abbrev b_M_lower : ByteArray := prog_6_method_14_code
abbrev y_M_lower : MethodName := ⟨"TapeEndsModel", "lower", "(II)I"⟩
theorem mc_M_lower : Cond.code y_M_lower b_M_lower 3 (some .int) ∈ TB := tb_mem 659 (by decide +kernel) rfl
theorem ms_M_lower : Cond.selects y_M_lower.cls y_M_lower y_M_lower ∈ TB := tb_mem 41 (by decide +kernel) rfl
theorem mi_M_lower : Cond.instanceMethod y_M_lower ∈ TB := tb_mem 658 (by decide +kernel) rfl
abbrev b_M_upper : ByteArray := prog_6_method_15_code
abbrev y_M_upper : MethodName := ⟨"TapeEndsModel", "upper", "(II)I"⟩
theorem mc_M_upper : Cond.code y_M_upper b_M_upper 3 (some .int) ∈ TB := tb_mem 663 (by decide +kernel) rfl
theorem ms_M_upper : Cond.selects y_M_upper.cls y_M_upper y_M_upper ∈ TB := tb_mem 42 (by decide +kernel) rfl
theorem mi_M_upper : Cond.instanceMethod y_M_upper ∈ TB := tb_mem 662 (by decide +kernel) rfl
abbrev b_M_travel : ByteArray := prog_6_method_16_code
abbrev y_M_travel : MethodName := ⟨"TapeEndsModel", "travel", "(I)V"⟩
theorem mc_M_travel : Cond.code y_M_travel b_M_travel 2 none ∈ TB := tb_mem 603 (by decide +kernel) rfl
theorem ms_M_travel : Cond.selects y_M_travel.cls y_M_travel y_M_travel ∈ TB := tb_mem 32 (by decide +kernel) rfl
theorem mi_M_travel : Cond.instanceMethod y_M_travel ∈ TB := tb_mem 602 (by decide +kernel) rfl
abbrev b_M_endOf : ByteArray := prog_6_method_17_code
abbrev y_M_endOf : MethodName := ⟨"TapeEndsModel", "endOf", "(IIIZ)I"⟩
theorem mc_M_endOf : Cond.code y_M_endOf b_M_endOf 6 (some .int) ∈ TB := tb_mem 655 (by decide +kernel) rfl
theorem ms_M_endOf : Cond.selects y_M_endOf.cls y_M_endOf y_M_endOf ∈ TB := tb_mem 40 (by decide +kernel) rfl
theorem mi_M_endOf : Cond.instanceMethod y_M_endOf ∈ TB := tb_mem 654 (by decide +kernel) rfl
abbrev b_M_travelTo : ByteArray := prog_6_method_18_code
abbrev y_M_travelTo : MethodName := ⟨"TapeEndsModel", "travelTo", "(III)I"⟩
theorem mc_M_travelTo : Cond.code y_M_travelTo b_M_travelTo 4 (some .int) ∈ TB := tb_mem 687 (by decide +kernel) rfl
theorem ms_M_travelTo : Cond.selects y_M_travelTo.cls y_M_travelTo y_M_travelTo ∈ TB := tb_mem 45 (by decide +kernel) rfl
theorem mi_M_travelTo : Cond.instanceMethod y_M_travelTo ∈ TB := tb_mem 686 (by decide +kernel) rfl
abbrev b_M_writeFault : ByteArray := prog_6_method_19_code
abbrev y_M_writeFault : MethodName := ⟨"TapeEndsModel", "writeFault", "(III)I"⟩
theorem mc_M_writeFault : Cond.code y_M_writeFault b_M_writeFault 4 (some .int) ∈ TB := tb_mem 592 (by decide +kernel) rfl
theorem ms_M_writeFault : Cond.selects y_M_writeFault.cls y_M_writeFault y_M_writeFault ∈ TB := tb_mem 30 (by decide +kernel) rfl
theorem mi_M_writeFault : Cond.instanceMethod y_M_writeFault ∈ TB := tb_mem 591 (by decide +kernel) rfl
abbrev b_M_writes : ByteArray := prog_6_method_20_code
abbrev y_M_writes : MethodName := ⟨"TapeEndsModel", "writes", "(III)I"⟩
theorem mc_M_writes : Cond.code y_M_writes b_M_writes 5 (some .int) ∈ TB := tb_mem 599 (by decide +kernel) rfl
theorem ms_M_writes : Cond.selects y_M_writes.cls y_M_writes y_M_writes ∈ TB := tb_mem 31 (by decide +kernel) rfl
theorem mi_M_writes : Cond.instanceMethod y_M_writes ∈ TB := tb_mem 598 (by decide +kernel) rfl
abbrev b_M_cutFault : ByteArray := prog_6_method_21_code
abbrev y_M_cutFault : MethodName := ⟨"TapeEndsModel", "cutFault", "(II)I"⟩
theorem mc_M_cutFault : Cond.code y_M_cutFault b_M_cutFault 3 (some .int) ∈ TB := tb_mem 615 (by decide +kernel) rfl
theorem ms_M_cutFault : Cond.selects y_M_cutFault.cls y_M_cutFault y_M_cutFault ∈ TB := tb_mem 33 (by decide +kernel) rfl
theorem mi_M_cutFault : Cond.instanceMethod y_M_cutFault ∈ TB := tb_mem 614 (by decide +kernel) rfl
abbrev b_M_cuts : ByteArray := prog_6_method_22_code
abbrev y_M_cuts : MethodName := ⟨"TapeEndsModel", "cuts", "(II)I"⟩
theorem mc_M_cuts : Cond.code y_M_cuts b_M_cuts 4 (some .int) ∈ TB := tb_mem 619 (by decide +kernel) rfl
theorem ms_M_cuts : Cond.selects y_M_cuts.cls y_M_cuts y_M_cuts ∈ TB := tb_mem 34 (by decide +kernel) rfl
theorem mi_M_cuts : Cond.instanceMethod y_M_cuts ∈ TB := tb_mem 618 (by decide +kernel) rfl
abbrev b_M_moves : ByteArray := prog_6_method_23_code
abbrev y_M_moves : MethodName := ⟨"TapeEndsModel", "moves", "(I)I"⟩
theorem mc_M_moves : Cond.code y_M_moves b_M_moves 3 (some .int) ∈ TB := tb_mem 627 (by decide +kernel) rfl
theorem ms_M_moves : Cond.selects y_M_moves.cls y_M_moves y_M_moves ∈ TB := tb_mem 35 (by decide +kernel) rfl
theorem mi_M_moves : Cond.instanceMethod y_M_moves ∈ TB := tb_mem 626 (by decide +kernel) rfl
abbrev b_M_rewinds : ByteArray := prog_6_method_24_code
abbrev y_M_rewinds : MethodName := ⟨"TapeEndsModel", "rewinds", "()I"⟩
theorem mc_M_rewinds : Cond.code y_M_rewinds b_M_rewinds 1 (some .int) ∈ TB := tb_mem 635 (by decide +kernel) rfl
theorem ms_M_rewinds : Cond.selects y_M_rewinds.cls y_M_rewinds y_M_rewinds ∈ TB := tb_mem 36 (by decide +kernel) rfl
theorem mi_M_rewinds : Cond.instanceMethod y_M_rewinds ∈ TB := tb_mem 634 (by decide +kernel) rfl
abbrev b_M_readFault : ByteArray := prog_6_method_25_code
abbrev y_M_readFault : MethodName := ⟨"TapeEndsModel", "readFault", "(III)I"⟩
theorem mc_M_readFault : Cond.code y_M_readFault b_M_readFault 4 (some .int) ∈ TB := tb_mem 643 (by decide +kernel) rfl
theorem ms_M_readFault : Cond.selects y_M_readFault.cls y_M_readFault y_M_readFault ∈ TB := tb_mem 37 (by decide +kernel) rfl
theorem mi_M_readFault : Cond.instanceMethod y_M_readFault ∈ TB := tb_mem 642 (by decide +kernel) rfl
abbrev b_M_reads : ByteArray := prog_6_method_26_code
abbrev y_M_reads : MethodName := ⟨"TapeEndsModel", "reads", "(III)I"⟩
theorem mc_M_reads : Cond.code y_M_reads b_M_reads 4 (some .int) ∈ TB := tb_mem 651 (by decide +kernel) rfl
theorem ms_M_reads : Cond.selects y_M_reads.cls y_M_reads y_M_reads ∈ TB := tb_mem 39 (by decide +kernel) rfl
theorem mi_M_reads : Cond.instanceMethod y_M_reads ∈ TB := tb_mem 650 (by decide +kernel) rfl
abbrev b_M_length : ByteArray := prog_6_method_27_code
abbrev y_M_length : MethodName := ⟨"TapeEndsModel", "length", "(I)I"⟩
theorem mc_M_length : Cond.code y_M_length b_M_length 3 (some .int) ∈ TB := tb_mem 550 (by decide +kernel) rfl
theorem ms_M_length : Cond.selects y_M_length.cls y_M_length y_M_length ∈ TB := tb_mem 549 (by decide +kernel) rfl
theorem mi_M_length : Cond.instanceMethod y_M_length ∈ TB := tb_mem 548 (by decide +kernel) rfl
abbrev b_M_tune : ByteArray := prog_6_method_28_code
abbrev y_M_tune : MethodName := ⟨"TapeEndsModel", "tune", "(II)I"⟩
theorem mc_M_tune : Cond.code y_M_tune b_M_tune 4 (some .int) ∈ TB := tb_mem 561 (by decide +kernel) rfl
theorem ms_M_tune : Cond.selects y_M_tune.cls y_M_tune y_M_tune ∈ TB := tb_mem 560 (by decide +kernel) rfl
theorem mi_M_tune : Cond.instanceMethod y_M_tune ∈ TB := tb_mem 559 (by decide +kernel) rfl
abbrev b_M_write : ByteArray := prog_6_method_29_code
abbrev y_M_write : MethodName := ⟨"TapeEndsModel", "write", "(III)I"⟩
theorem mc_M_write : Cond.code y_M_write b_M_write 5 (some .int) ∈ TB := tb_mem 588 (by decide +kernel) rfl
theorem ms_M_write : Cond.selects y_M_write.cls y_M_write y_M_write ∈ TB := tb_mem 587 (by decide +kernel) rfl
theorem mi_M_write : Cond.instanceMethod y_M_write ∈ TB := tb_mem 586 (by decide +kernel) rfl
abbrev b_M_cut : ByteArray := prog_6_method_30_code
abbrev y_M_cut : MethodName := ⟨"TapeEndsModel", "cut", "(II)I"⟩
theorem mc_M_cut : Cond.code y_M_cut b_M_cut 4 (some .int) ∈ TB := tb_mem 611 (by decide +kernel) rfl
theorem ms_M_cut : Cond.selects y_M_cut.cls y_M_cut y_M_cut ∈ TB := tb_mem 610 (by decide +kernel) rfl
theorem mi_M_cut : Cond.instanceMethod y_M_cut ∈ TB := tb_mem 609 (by decide +kernel) rfl
abbrev b_M_move : ByteArray := prog_6_method_31_code
abbrev y_M_move : MethodName := ⟨"TapeEndsModel", "move", "(I)I"⟩
theorem mc_M_move : Cond.code y_M_move b_M_move 2 (some .int) ∈ TB := tb_mem 623 (by decide +kernel) rfl
theorem ms_M_move : Cond.selects y_M_move.cls y_M_move y_M_move ∈ TB := tb_mem 622 (by decide +kernel) rfl
theorem mi_M_move : Cond.instanceMethod y_M_move ∈ TB := tb_mem 621 (by decide +kernel) rfl
abbrev b_M_rewind : ByteArray := prog_6_method_32_code
abbrev y_M_rewind : MethodName := ⟨"TapeEndsModel", "rewind", "()I"⟩
theorem mc_M_rewind : Cond.code y_M_rewind b_M_rewind 1 (some .int) ∈ TB := tb_mem 631 (by decide +kernel) rfl
theorem ms_M_rewind : Cond.selects y_M_rewind.cls y_M_rewind y_M_rewind ∈ TB := tb_mem 630 (by decide +kernel) rfl
theorem mi_M_rewind : Cond.instanceMethod y_M_rewind ∈ TB := tb_mem 629 (by decide +kernel) rfl
abbrev b_M_read : ByteArray := prog_6_method_33_code
abbrev y_M_read : MethodName := ⟨"TapeEndsModel", "read", "(III)I"⟩
theorem mc_M_read : Cond.code y_M_read b_M_read 5 (some .int) ∈ TB := tb_mem 639 (by decide +kernel) rfl
theorem ms_M_read : Cond.selects y_M_read.cls y_M_read y_M_read ∈ TB := tb_mem 638 (by decide +kernel) rfl
theorem mi_M_read : Cond.instanceMethod y_M_read ∈ TB := tb_mem 637 (by decide +kernel) rfl
abbrev b_M_within : ByteArray := prog_6_method_34_code
abbrev y_M_within : MethodName := ⟨"TapeEndsModel", "within", "(II)I"⟩
theorem mc_M_within : Cond.code y_M_within b_M_within 7 (some .int) ∈ TB := tb_mem 671 (by decide +kernel) rfl
theorem ms_M_within : Cond.selects y_M_within.cls y_M_within y_M_within ∈ TB := tb_mem 43 (by decide +kernel) rfl
theorem mi_M_within : Cond.instanceMethod y_M_within ∈ TB := tb_mem 670 (by decide +kernel) rfl
abbrev b_M_splice : ByteArray := prog_6_method_35_code
abbrev y_M_splice : MethodName := ⟨"TapeEndsModel", "splice", "(II)I"⟩
theorem mc_M_splice : Cond.code y_M_splice b_M_splice 7 (some .int) ∈ TB := tb_mem 667 (by decide +kernel) rfl
theorem ms_M_splice : Cond.selects y_M_splice.cls y_M_splice y_M_splice ∈ TB := tb_mem 666 (by decide +kernel) rfl
theorem mi_M_splice : Cond.instanceMethod y_M_splice ∈ TB := tb_mem 665 (by decide +kernel) rfl
abbrev b_M_sum : ByteArray := prog_6_method_36_code
abbrev y_M_sum : MethodName := ⟨"TapeEndsModel", "sum", "(II)I"⟩
theorem mc_M_sum : Cond.code y_M_sum b_M_sum 5 (some .int) ∈ TB := tb_mem 679 (by decide +kernel) rfl
theorem ms_M_sum : Cond.selects y_M_sum.cls y_M_sum y_M_sum ∈ TB := tb_mem 44 (by decide +kernel) rfl
theorem mi_M_sum : Cond.instanceMethod y_M_sum ∈ TB := tb_mem 678 (by decide +kernel) rfl
abbrev b_M_ofFile : ByteArray := prog_6_method_37_code
abbrev y_M_ofFile : MethodName := ⟨"TapeEndsModel", "ofFile", "(II)I"⟩
theorem mc_M_ofFile : Cond.code y_M_ofFile b_M_ofFile 3 (some .int) ∈ TB := tb_mem 675 (by decide +kernel) rfl
theorem ms_M_ofFile : Cond.selects y_M_ofFile.cls y_M_ofFile y_M_ofFile ∈ TB := tb_mem 674 (by decide +kernel) rfl
theorem mi_M_ofFile : Cond.instanceMethod y_M_ofFile ∈ TB := tb_mem 673 (by decide +kernel) rfl
abbrev b_M_ofBlock : ByteArray := prog_6_method_38_code
abbrev y_M_ofBlock : MethodName := ⟨"TapeEndsModel", "ofBlock", "(III)I"⟩
theorem mc_M_ofBlock : Cond.code y_M_ofBlock b_M_ofBlock 4 (some .int) ∈ TB := tb_mem 683 (by decide +kernel) rfl
theorem ms_M_ofBlock : Cond.selects y_M_ofBlock.cls y_M_ofBlock y_M_ofBlock ∈ TB := tb_mem 682 (by decide +kernel) rfl
theorem mi_M_ofBlock : Cond.instanceMethod y_M_ofBlock ∈ TB := tb_mem 681 (by decide +kernel) rfl
abbrev b_M_at : ByteArray := prog_6_method_39_code
abbrev y_M_at : MethodName := ⟨"TapeEndsModel", "at", "(I)I"⟩
theorem mc_M_at : Cond.code y_M_at b_M_at 3 (some .int) ∈ TB := tb_mem 691 (by decide +kernel) rfl
theorem ms_M_at : Cond.selects y_M_at.cls y_M_at y_M_at ∈ TB := tb_mem 690 (by decide +kernel) rfl
theorem mi_M_at : Cond.instanceMethod y_M_at ∈ TB := tb_mem 689 (by decide +kernel) rfl
abbrev b_M_count : ByteArray := prog_6_method_40_code
abbrev y_M_count : MethodName := ⟨"TapeEndsModel", "count", "(I)I"⟩
theorem mc_M_count : Cond.code y_M_count b_M_count 2 (some .int) ∈ TB := tb_mem 695 (by decide +kernel) rfl
theorem ms_M_count : Cond.selects y_M_count.cls y_M_count y_M_count ∈ TB := tb_mem 694 (by decide +kernel) rfl
theorem mi_M_count : Cond.instanceMethod y_M_count ∈ TB := tb_mem 693 (by decide +kernel) rfl
abbrev b_M_fits : ByteArray := prog_6_method_41_code
abbrev y_M_fits : MethodName := ⟨"TapeEndsModel", "fits", "(I)I"⟩
theorem mc_M_fits : Cond.code y_M_fits b_M_fits 3 (some .int) ∈ TB := tb_mem 699 (by decide +kernel) rfl
theorem ms_M_fits : Cond.selects y_M_fits.cls y_M_fits y_M_fits ∈ TB := tb_mem 698 (by decide +kernel) rfl
theorem mi_M_fits : Cond.instanceMethod y_M_fits ∈ TB := tb_mem 697 (by decide +kernel) rfl
abbrev b_M_rooms : ByteArray := prog_6_method_42_code
abbrev y_M_rooms : MethodName := ⟨"TapeEndsModel", "rooms", "(I)I"⟩
theorem mc_M_rooms : Cond.code y_M_rooms b_M_rooms 4 (some .int) ∈ TB := tb_mem 703 (by decide +kernel) rfl
theorem ms_M_rooms : Cond.selects y_M_rooms.cls y_M_rooms y_M_rooms ∈ TB := tb_mem 702 (by decide +kernel) rfl
theorem mi_M_rooms : Cond.instanceMethod y_M_rooms ∈ TB := tb_mem 701 (by decide +kernel) rfl
abbrev b_M_nearest : ByteArray := prog_6_method_43_code
abbrev y_M_nearest : MethodName := ⟨"TapeEndsModel", "nearest", "(I)I"⟩
theorem mc_M_nearest : Cond.code y_M_nearest b_M_nearest 9 (some .int) ∈ TB := tb_mem 707 (by decide +kernel) rfl
theorem ms_M_nearest : Cond.selects y_M_nearest.cls y_M_nearest y_M_nearest ∈ TB := tb_mem 706 (by decide +kernel) rfl
theorem mi_M_nearest : Cond.instanceMethod y_M_nearest ∈ TB := tb_mem 705 (by decide +kernel) rfl
abbrev b_M_put : ByteArray := prog_6_method_44_code
abbrev y_M_put : MethodName := ⟨"TapeEndsModel", "put", "(J)I"⟩
theorem mc_M_put : Cond.code y_M_put b_M_put 8 (some .int) ∈ TB := tb_mem 711 (by decide +kernel) rfl
theorem ms_M_put : Cond.selects y_M_put.cls y_M_put y_M_put ∈ TB := tb_mem 710 (by decide +kernel) rfl
theorem mi_M_put : Cond.instanceMethod y_M_put ∈ TB := tb_mem 709 (by decide +kernel) rfl
abbrev b_M_wipe : ByteArray := prog_6_method_45_code
abbrev y_M_wipe : MethodName := ⟨"TapeEndsModel", "wipe", "()I"⟩
theorem mc_M_wipe : Cond.code y_M_wipe b_M_wipe 2 (some .int) ∈ TB := tb_mem 716 (by decide +kernel) rfl
theorem ms_M_wipe : Cond.selects y_M_wipe.cls y_M_wipe y_M_wipe ∈ TB := tb_mem 715 (by decide +kernel) rfl
theorem mi_M_wipe : Cond.instanceMethod y_M_wipe ∈ TB := tb_mem 714 (by decide +kernel) rfl
abbrev b_M_sign : ByteArray := prog_6_method_46_code
abbrev y_M_sign : MethodName := ⟨"TapeEndsModel", "sign", "(II)I"⟩
theorem mc_M_sign : Cond.code y_M_sign b_M_sign 4 (some .int) ∈ TB := tb_mem 732 (by decide +kernel) rfl
theorem ms_M_sign : Cond.selects y_M_sign.cls y_M_sign y_M_sign ∈ TB := tb_mem 48 (by decide +kernel) rfl
theorem mi_M_sign : Cond.instanceMethod y_M_sign ∈ TB := tb_mem 731 (by decide +kernel) rfl
abbrev b_M_isNext : ByteArray := prog_6_method_47_code
abbrev y_M_isNext : MethodName := ⟨"TapeEndsModel", "isNext", "(II)Z"⟩
theorem mc_M_isNext : Cond.code y_M_isNext b_M_isNext 3 (some .boolean) ∈ TB := tb_mem 740 (by decide +kernel) rfl
theorem ms_M_isNext : Cond.selects y_M_isNext.cls y_M_isNext y_M_isNext ∈ TB := tb_mem 50 (by decide +kernel) rfl
theorem mi_M_isNext : Cond.instanceMethod y_M_isNext ∈ TB := tb_mem 739 (by decide +kernel) rfl
abbrev b_M_number : ByteArray := prog_6_method_48_code
abbrev y_M_number : MethodName := ⟨"TapeEndsModel", "number", "()I"⟩
theorem mc_M_number : Cond.code y_M_number b_M_number 3 (some .int) ∈ TB := tb_mem 736 (by decide +kernel) rfl
theorem ms_M_number : Cond.selects y_M_number.cls y_M_number y_M_number ∈ TB := tb_mem 49 (by decide +kernel) rfl
theorem mi_M_number : Cond.instanceMethod y_M_number ∈ TB := tb_mem 735 (by decide +kernel) rfl
abbrev b_M_order : ByteArray := prog_6_method_49_code
abbrev y_M_order : MethodName := ⟨"TapeEndsModel", "order", "()V"⟩
theorem mc_M_order : Cond.code y_M_order b_M_order 4 none ∈ TB := tb_mem 728 (by decide +kernel) rfl
theorem ms_M_order : Cond.selects y_M_order.cls y_M_order y_M_order ∈ TB := tb_mem 47 (by decide +kernel) rfl
theorem mi_M_order : Cond.instanceMethod y_M_order ∈ TB := tb_mem 727 (by decide +kernel) rfl
abbrev b_M_does : ByteArray := prog_6_method_50_code
abbrev y_M_does : MethodName := ⟨"TapeEndsModel", "does", "()Z"⟩
theorem mc_M_does : Cond.code y_M_does b_M_does 4 (some .boolean) ∈ TB := tb_mem 744 (by decide +kernel) rfl
theorem ms_M_does : Cond.selects y_M_does.cls y_M_does y_M_does ∈ TB := tb_mem 51 (by decide +kernel) rfl
theorem mi_M_does : Cond.instanceMethod y_M_does ∈ TB := tb_mem 743 (by decide +kernel) rfl
abbrev b_M_go : ByteArray := prog_6_method_51_code
abbrev y_M_go : MethodName := ⟨"TapeEndsModel", "go", "(Z)I"⟩
theorem mc_M_go : Cond.code y_M_go b_M_go 6 (some .int) ∈ TB := tb_mem 724 (by decide +kernel) rfl
theorem ms_M_go : Cond.selects y_M_go.cls y_M_go y_M_go ∈ TB := tb_mem 46 (by decide +kernel) rfl
theorem mi_M_go : Cond.instanceMethod y_M_go ∈ TB := tb_mem 723 (by decide +kernel) rfl
abbrev b_M_fault : ByteArray := prog_6_method_52_code
abbrev y_M_fault : MethodName := ⟨"TapeEndsModel", "fault", "()I"⟩
theorem mc_M_fault : Cond.code y_M_fault b_M_fault 2 (some .int) ∈ TB := tb_mem 720 (by decide +kernel) rfl
theorem ms_M_fault : Cond.selects y_M_fault.cls y_M_fault y_M_fault ∈ TB := tb_mem 719 (by decide +kernel) rfl
theorem mi_M_fault : Cond.instanceMethod y_M_fault ∈ TB := tb_mem 718 (by decide +kernel) rfl
abbrev b_M_carryOut : ByteArray := prog_6_method_53_code
abbrev y_M_carryOut : MethodName := ⟨"TapeEndsModel", "carryOut", "()I"⟩
theorem mc_M_carryOut : Cond.code y_M_carryOut b_M_carryOut 3 (some .int) ∈ TB := tb_mem 748 (by decide +kernel) rfl
theorem ms_M_carryOut : Cond.selects y_M_carryOut.cls y_M_carryOut y_M_carryOut ∈ TB := tb_mem 747 (by decide +kernel) rfl
theorem mi_M_carryOut : Cond.instanceMethod y_M_carryOut ∈ TB := tb_mem 746 (by decide +kernel) rfl
abbrev b_M_undo : ByteArray := prog_6_method_54_code
abbrev y_M_undo : MethodName := ⟨"TapeEndsModel", "undo", "()I"⟩
theorem mc_M_undo : Cond.code y_M_undo b_M_undo 2 (some .int) ∈ TB := tb_mem 752 (by decide +kernel) rfl
theorem ms_M_undo : Cond.selects y_M_undo.cls y_M_undo y_M_undo ∈ TB := tb_mem 751 (by decide +kernel) rfl
theorem mi_M_undo : Cond.instanceMethod y_M_undo ∈ TB := tb_mem 750 (by decide +kernel) rfl
abbrev b_M_save : ByteArray := prog_6_method_55_code
abbrev y_M_save : MethodName := ⟨"TapeEndsModel", "save", "(I)I"⟩
theorem mc_M_save : Cond.code y_M_save b_M_save 3 (some .int) ∈ TB := tb_mem 756 (by decide +kernel) rfl
theorem ms_M_save : Cond.selects y_M_save.cls y_M_save y_M_save ∈ TB := tb_mem 755 (by decide +kernel) rfl
theorem mi_M_save : Cond.instanceMethod y_M_save ∈ TB := tb_mem 754 (by decide +kernel) rfl
abbrev b_M_restore : ByteArray := prog_6_method_56_code
abbrev y_M_restore : MethodName := ⟨"TapeEndsModel", "restore", "(I)I"⟩
theorem mc_M_restore : Cond.code y_M_restore b_M_restore 3 (some .int) ∈ TB := tb_mem 760 (by decide +kernel) rfl
theorem ms_M_restore : Cond.selects y_M_restore.cls y_M_restore y_M_restore ∈ TB := tb_mem 759 (by decide +kernel) rfl
theorem mi_M_restore : Cond.instanceMethod y_M_restore ∈ TB := tb_mem 758 (by decide +kernel) rfl
abbrev b_R_init : ByteArray := prog_2_method_1_code
abbrev y_R_init : MethodName := ⟨"TapeEnds$OrderReader", "<init>", "(LTapeEnds$Pad;)V"⟩
theorem mc_R_init : Cond.code y_R_init b_R_init 2 none ∈ TB := tb_mem 135 (by decide +kernel) rfl
theorem mi_R_init : Cond.instanceMethod y_R_init ∈ TB := tb_mem 134 (by decide +kernel) rfl
abbrev b_R_startAgain : ByteArray := prog_2_method_2_code
abbrev y_R_startAgain : MethodName := ⟨"TapeEnds$OrderReader", "startAgain", "()V"⟩
theorem mc_R_startAgain : Cond.code y_R_startAgain b_R_startAgain 1 none ∈ TB := tb_mem 430 (by decide +kernel) rfl
theorem ms_R_startAgain : Cond.selects y_R_startAgain.cls y_R_startAgain y_R_startAgain ∈ TB := tb_mem 429 (by decide +kernel) rfl
theorem mi_R_startAgain : Cond.instanceMethod y_R_startAgain ∈ TB := tb_mem 428 (by decide +kernel) rfl
abbrev b_R_hasMore : ByteArray := prog_2_method_3_code
abbrev y_R_hasMore : MethodName := ⟨"TapeEnds$OrderReader", "hasMore", "()Z"⟩
theorem mc_R_hasMore : Cond.code y_R_hasMore b_R_hasMore 1 (some .boolean) ∈ TB := tb_mem 466 (by decide +kernel) rfl
theorem ms_R_hasMore : Cond.selects y_R_hasMore.cls y_R_hasMore y_R_hasMore ∈ TB := tb_mem 465 (by decide +kernel) rfl
theorem mi_R_hasMore : Cond.instanceMethod y_R_hasMore ∈ TB := tb_mem 464 (by decide +kernel) rfl
abbrev b_R_faultPosition : ByteArray := prog_2_method_4_code
abbrev y_R_faultPosition : MethodName := ⟨"TapeEnds$OrderReader", "faultPosition", "()I"⟩
theorem mc_R_faultPosition : Cond.code y_R_faultPosition b_R_faultPosition 2 (some .int) ∈ TB := tb_mem 426 (by decide +kernel) rfl
theorem ms_R_faultPosition : Cond.selects y_R_faultPosition.cls y_R_faultPosition y_R_faultPosition ∈ TB := tb_mem 425 (by decide +kernel) rfl
theorem mi_R_faultPosition : Cond.instanceMethod y_R_faultPosition ∈ TB := tb_mem 424 (by decide +kernel) rfl
abbrev b_R_readNext : ByteArray := prog_2_method_5_code
abbrev y_R_readNext : MethodName := ⟨"TapeEnds$OrderReader", "readNext", "()V"⟩
theorem mc_R_readNext : Cond.code y_R_readNext b_R_readNext 1 none ∈ TB := tb_mem 434 (by decide +kernel) rfl
theorem ms_R_readNext : Cond.selects y_R_readNext.cls y_R_readNext y_R_readNext ∈ TB := tb_mem 433 (by decide +kernel) rfl
theorem mi_R_readNext : Cond.instanceMethod y_R_readNext ∈ TB := tb_mem 432 (by decide +kernel) rfl
abbrev b_R_carryOutOn : ByteArray := prog_2_method_6_code
abbrev y_R_carryOutOn : MethodName := ⟨"TapeEnds$OrderReader", "carryOutOn", "(LTapeEnds$Tape;)I"⟩
theorem mc_R_carryOutOn : Cond.code y_R_carryOutOn b_R_carryOutOn 2 (some .int) ∈ TB := tb_mem 482 (by decide +kernel) rfl
theorem ms_R_carryOutOn : Cond.selects y_R_carryOutOn.cls y_R_carryOutOn y_R_carryOutOn ∈ TB := tb_mem 481 (by decide +kernel) rfl
theorem mi_R_carryOutOn : Cond.instanceMethod y_R_carryOutOn ∈ TB := tb_mem 480 (by decide +kernel) rfl
abbrev b_R_readOrder : ByteArray := prog_2_method_7_code
abbrev y_R_readOrder : MethodName := ⟨"TapeEnds$OrderReader", "readOrder", "()V"⟩
theorem mc_R_readOrder : Cond.code y_R_readOrder b_R_readOrder 1 none ∈ TB := tb_mem 450 (by decide +kernel) rfl
theorem ms_R_readOrder : Cond.selects y_R_readOrder.cls y_R_readOrder y_R_readOrder ∈ TB := tb_mem 19 (by decide +kernel) rfl
theorem mi_R_readOrder : Cond.instanceMethod y_R_readOrder ∈ TB := tb_mem 449 (by decide +kernel) rfl
abbrev b_R_readFile : ByteArray := prog_2_method_8_code
abbrev y_R_readFile : MethodName := ⟨"TapeEnds$OrderReader", "readFile", "(C)V"⟩
theorem mc_R_readFile : Cond.code y_R_readFile b_R_readFile 2 none ∈ TB := tb_mem 454 (by decide +kernel) rfl
theorem ms_R_readFile : Cond.selects y_R_readFile.cls y_R_readFile y_R_readFile ∈ TB := tb_mem 20 (by decide +kernel) rfl
theorem mi_R_readFile : Cond.instanceMethod y_R_readFile ∈ TB := tb_mem 453 (by decide +kernel) rfl
abbrev b_R_readNumber : ByteArray := prog_2_method_9_code
abbrev y_R_readNumber : MethodName := ⟨"TapeEnds$OrderReader", "readNumber", "()I"⟩
theorem mc_R_readNumber : Cond.code y_R_readNumber b_R_readNumber 3 (some .int) ∈ TB := tb_mem 458 (by decide +kernel) rfl
theorem ms_R_readNumber : Cond.selects y_R_readNumber.cls y_R_readNumber y_R_readNumber ∈ TB := tb_mem 21 (by decide +kernel) rfl
theorem mi_R_readNumber : Cond.instanceMethod y_R_readNumber ∈ TB := tb_mem 457 (by decide +kernel) rfl
abbrev b_R_isDigitNext : ByteArray := prog_2_method_10_code
abbrev y_R_isDigitNext : MethodName := ⟨"TapeEnds$OrderReader", "isDigitNext", "()Z"⟩
theorem mc_R_isDigitNext : Cond.code y_R_isDigitNext b_R_isDigitNext 2 (some .boolean) ∈ TB := tb_mem 462 (by decide +kernel) rfl
theorem ms_R_isDigitNext : Cond.selects y_R_isDigitNext.cls y_R_isDigitNext y_R_isDigitNext ∈ TB := tb_mem 22 (by decide +kernel) rfl
theorem mi_R_isDigitNext : Cond.instanceMethod y_R_isDigitNext ∈ TB := tb_mem 461 (by decide +kernel) rfl
abbrev b_R_passIfThere : ByteArray := prog_2_method_11_code
abbrev y_R_passIfThere : MethodName := ⟨"TapeEnds$OrderReader", "passIfThere", "(C)Z"⟩
theorem mc_R_passIfThere : Cond.code y_R_passIfThere b_R_passIfThere 2 (some .boolean) ∈ TB := tb_mem 442 (by decide +kernel) rfl
theorem ms_R_passIfThere : Cond.selects y_R_passIfThere.cls y_R_passIfThere y_R_passIfThere ∈ TB := tb_mem 18 (by decide +kernel) rfl
theorem mi_R_passIfThere : Cond.instanceMethod y_R_passIfThere ∈ TB := tb_mem 441 (by decide +kernel) rfl
abbrev b_R_pass : ByteArray := prog_2_method_12_code
abbrev y_R_pass : MethodName := ⟨"TapeEnds$OrderReader", "pass", "(C)V"⟩
theorem mc_R_pass : Cond.code y_R_pass b_R_pass 2 none ∈ TB := tb_mem 438 (by decide +kernel) rfl
theorem ms_R_pass : Cond.selects y_R_pass.cls y_R_pass y_R_pass ∈ TB := tb_mem 17 (by decide +kernel) rfl
theorem mi_R_pass : Cond.instanceMethod y_R_pass ∈ TB := tb_mem 437 (by decide +kernel) rfl
abbrev b_P_init : ByteArray := prog_3_method_1_code
abbrev y_P_init : MethodName := ⟨"TapeEnds$Pad", "<init>", "()V"⟩
theorem mc_P_init : Cond.code y_P_init b_P_init 1 none ∈ TB := tb_mem 120 (by decide +kernel) rfl
theorem mi_P_init : Cond.instanceMethod y_P_init ∈ TB := tb_mem 119 (by decide +kernel) rfl
abbrev b_P_size : ByteArray := prog_3_method_2_code
abbrev y_P_size : MethodName := ⟨"TapeEnds$Pad", "size", "()I"⟩
theorem mc_P_size : Cond.code y_P_size b_P_size 1 (some .int) ∈ TB := tb_mem 367 (by decide +kernel) rfl
theorem ms_P_size : Cond.selects y_P_size.cls y_P_size y_P_size ∈ TB := tb_mem 366 (by decide +kernel) rfl
theorem mi_P_size : Cond.instanceMethod y_P_size ∈ TB := tb_mem 365 (by decide +kernel) rfl
abbrev b_P_characterAt : ByteArray := prog_3_method_3_code
abbrev y_P_characterAt : MethodName := ⟨"TapeEnds$Pad", "characterAt", "(I)C"⟩
theorem mc_P_characterAt : Cond.code y_P_characterAt b_P_characterAt 2 (some .char) ∈ TB := tb_mem 446 (by decide +kernel) rfl
theorem ms_P_characterAt : Cond.selects y_P_characterAt.cls y_P_characterAt y_P_characterAt ∈ TB := tb_mem 445 (by decide +kernel) rfl
theorem mi_P_characterAt : Cond.instanceMethod y_P_characterAt ∈ TB := tb_mem 444 (by decide +kernel) rfl
abbrev b_P_append : ByteArray := prog_3_method_4_code
abbrev y_P_append : MethodName := ⟨"TapeEnds$Pad", "append", "(J)I"⟩
theorem mc_P_append : Cond.code y_P_append b_P_append 5 (some .int) ∈ TB := tb_mem 403 (by decide +kernel) rfl
theorem ms_P_append : Cond.selects y_P_append.cls y_P_append y_P_append ∈ TB := tb_mem 402 (by decide +kernel) rfl
theorem mi_P_append : Cond.instanceMethod y_P_append ∈ TB := tb_mem 401 (by decide +kernel) rfl
abbrev b_P_clear : ByteArray := prog_3_method_5_code
abbrev y_P_clear : MethodName := ⟨"TapeEnds$Pad", "clear", "()I"⟩
theorem mc_P_clear : Cond.code y_P_clear b_P_clear 2 (some .int) ∈ TB := tb_mem 418 (by decide +kernel) rfl
theorem ms_P_clear : Cond.selects y_P_clear.cls y_P_clear y_P_clear ∈ TB := tb_mem 417 (by decide +kernel) rfl
theorem mi_P_clear : Cond.instanceMethod y_P_clear ∈ TB := tb_mem 416 (by decide +kernel) rfl
abbrev b_P_charactersIn : ByteArray := prog_3_method_6_code
abbrev y_P_charactersIn : MethodName := ⟨"TapeEnds$Pad", "charactersIn", "(J)I"⟩
theorem mc_P_charactersIn : Cond.code y_P_charactersIn b_P_charactersIn 8 (some .int) ∈ TB := tb_mem 407 (by decide +kernel) rfl
theorem ms_P_charactersIn : Cond.selects y_P_charactersIn.cls y_P_charactersIn y_P_charactersIn ∈ TB := tb_mem 16 (by decide +kernel) rfl
theorem mi_P_charactersIn : Cond.instanceMethod y_P_charactersIn ∈ TB := tb_mem 406 (by decide +kernel) rfl
abbrev b_T_init : ByteArray := prog_4_method_1_code
abbrev y_T_init : MethodName := ⟨"TapeEnds$Tape", "<init>", "()V"⟩
theorem mc_T_init : Cond.code y_T_init b_T_init 1 none ∈ TB := tb_mem 72 (by decide +kernel) rfl
theorem mi_T_init : Cond.instanceMethod y_T_init ∈ TB := tb_mem 71 (by decide +kernel) rfl
abbrev b_T_copyFrom : ByteArray := prog_4_method_2_code
abbrev y_T_copyFrom : MethodName := ⟨"TapeEnds$Tape", "copyFrom", "(LTapeEnds$Tape;)V"⟩
theorem mc_T_copyFrom : Cond.code y_T_copyFrom b_T_copyFrom 2 none ∈ TB := tb_mem 194 (by decide +kernel) rfl
theorem ms_T_copyFrom : Cond.selects y_T_copyFrom.cls y_T_copyFrom y_T_copyFrom ∈ TB := tb_mem 193 (by decide +kernel) rfl
theorem mi_T_copyFrom : Cond.instanceMethod y_T_copyFrom ∈ TB := tb_mem 192 (by decide +kernel) rfl
abbrev b_T_setFeet : ByteArray := prog_4_method_3_code
abbrev y_T_setFeet : MethodName := ⟨"TapeEnds$Tape", "setFeet", "(I)I"⟩
theorem mc_T_setFeet : Cond.code y_T_setFeet b_T_setFeet 3 (some .int) ∈ TB := tb_mem 201 (by decide +kernel) rfl
theorem ms_T_setFeet : Cond.selects y_T_setFeet.cls y_T_setFeet y_T_setFeet ∈ TB := tb_mem 200 (by decide +kernel) rfl
theorem mi_T_setFeet : Cond.instanceMethod y_T_setFeet ∈ TB := tb_mem 199 (by decide +kernel) rfl
abbrev b_T_setGapAndMark : ByteArray := prog_4_method_4_code
abbrev y_T_setGapAndMark : MethodName := ⟨"TapeEnds$Tape", "setGapAndMark", "(II)I"⟩
theorem mc_T_setGapAndMark : Cond.code y_T_setGapAndMark b_T_setGapAndMark 4 (some .int) ∈ TB := tb_mem 224 (by decide +kernel) rfl
theorem ms_T_setGapAndMark : Cond.selects y_T_setGapAndMark.cls y_T_setGapAndMark y_T_setGapAndMark ∈ TB := tb_mem 223 (by decide +kernel) rfl
theorem mi_T_setGapAndMark : Cond.instanceMethod y_T_setGapAndMark ∈ TB := tb_mem 222 (by decide +kernel) rfl
abbrev b_T_addBlock : ByteArray := prog_4_method_5_code
abbrev y_T_addBlock : MethodName := ⟨"TapeEnds$Tape", "addBlock", "(III)I"⟩
theorem mc_T_addBlock : Cond.code y_T_addBlock b_T_addBlock 6 (some .int) ∈ TB := tb_mem 248 (by decide +kernel) rfl
theorem ms_T_addBlock : Cond.selects y_T_addBlock.cls y_T_addBlock y_T_addBlock ∈ TB := tb_mem 247 (by decide +kernel) rfl
theorem mi_T_addBlock : Cond.instanceMethod y_T_addBlock ∈ TB := tb_mem 246 (by decide +kernel) rfl
abbrev b_T_keepBlocks : ByteArray := prog_4_method_6_code
abbrev y_T_keepBlocks : MethodName := ⟨"TapeEnds$Tape", "keepBlocks", "(II)I"⟩
theorem mc_T_keepBlocks : Cond.code y_T_keepBlocks b_T_keepBlocks 4 (some .int) ∈ TB := tb_mem 272 (by decide +kernel) rfl
theorem ms_T_keepBlocks : Cond.selects y_T_keepBlocks.cls y_T_keepBlocks y_T_keepBlocks ∈ TB := tb_mem 271 (by decide +kernel) rfl
theorem mi_T_keepBlocks : Cond.instanceMethod y_T_keepBlocks ∈ TB := tb_mem 270 (by decide +kernel) rfl
abbrev b_T_moveHead : ByteArray := prog_4_method_7_code
abbrev y_T_moveHead : MethodName := ⟨"TapeEnds$Tape", "moveHead", "(I)I"⟩
theorem mc_T_moveHead : Cond.code y_T_moveHead b_T_moveHead 2 (some .int) ∈ TB := tb_mem 280 (by decide +kernel) rfl
theorem ms_T_moveHead : Cond.selects y_T_moveHead.cls y_T_moveHead y_T_moveHead ∈ TB := tb_mem 279 (by decide +kernel) rfl
theorem mi_T_moveHead : Cond.instanceMethod y_T_moveHead ∈ TB := tb_mem 278 (by decide +kernel) rfl
abbrev b_T_goToNearerEnd : ByteArray := prog_4_method_8_code
abbrev y_T_goToNearerEnd : MethodName := ⟨"TapeEnds$Tape", "goToNearerEnd", "()I"⟩
theorem mc_T_goToNearerEnd : Cond.code y_T_goToNearerEnd b_T_goToNearerEnd 1 (some .int) ∈ TB := tb_mem 288 (by decide +kernel) rfl
theorem ms_T_goToNearerEnd : Cond.selects y_T_goToNearerEnd.cls y_T_goToNearerEnd y_T_goToNearerEnd ∈ TB := tb_mem 287 (by decide +kernel) rfl
theorem mi_T_goToNearerEnd : Cond.instanceMethod y_T_goToNearerEnd ∈ TB := tb_mem 286 (by decide +kernel) rfl
abbrev b_T_passBlock : ByteArray := prog_4_method_9_code
abbrev y_T_passBlock : MethodName := ⟨"TapeEnds$Tape", "passBlock", "(III)I"⟩
theorem mc_T_passBlock : Cond.code y_T_passBlock b_T_passBlock 5 (some .int) ∈ TB := tb_mem 296 (by decide +kernel) rfl
theorem ms_T_passBlock : Cond.selects y_T_passBlock.cls y_T_passBlock y_T_passBlock ∈ TB := tb_mem 295 (by decide +kernel) rfl
theorem mi_T_passBlock : Cond.instanceMethod y_T_passBlock ∈ TB := tb_mem 294 (by decide +kernel) rfl
abbrev b_T_takeOut : ByteArray := prog_4_method_10_code
abbrev y_T_takeOut : MethodName := ⟨"TapeEnds$Tape", "takeOut", "(II)I"⟩
theorem mc_T_takeOut : Cond.code y_T_takeOut b_T_takeOut 7 (some .int) ∈ TB := tb_mem 316 (by decide +kernel) rfl
theorem ms_T_takeOut : Cond.selects y_T_takeOut.cls y_T_takeOut y_T_takeOut ∈ TB := tb_mem 315 (by decide +kernel) rfl
theorem mi_T_takeOut : Cond.instanceMethod y_T_takeOut ∈ TB := tb_mem 314 (by decide +kernel) rfl
abbrev b_T_travelTo : ByteArray := prog_4_method_11_code
abbrev y_T_travelTo : MethodName := ⟨"TapeEnds$Tape", "travelTo", "(I)I"⟩
theorem mc_T_travelTo : Cond.code y_T_travelTo b_T_travelTo 3 (some .int) ∈ TB := tb_mem 260 (by decide +kernel) rfl
theorem ms_T_travelTo : Cond.selects y_T_travelTo.cls y_T_travelTo y_T_travelTo ∈ TB := tb_mem 8 (by decide +kernel) rfl
theorem mi_T_travelTo : Cond.instanceMethod y_T_travelTo ∈ TB := tb_mem 259 (by decide +kernel) rfl
abbrev b_T_aboutTape : ByteArray := prog_4_method_12_code
abbrev y_T_aboutTape : MethodName := ⟨"TapeEnds$Tape", "aboutTape", "(I)I"⟩
theorem mc_T_aboutTape : Cond.code y_T_aboutTape b_T_aboutTape 2 (some .int) ∈ TB := tb_mem 371 (by decide +kernel) rfl
theorem ms_T_aboutTape : Cond.selects y_T_aboutTape.cls y_T_aboutTape y_T_aboutTape ∈ TB := tb_mem 370 (by decide +kernel) rfl
theorem mi_T_aboutTape : Cond.instanceMethod y_T_aboutTape ∈ TB := tb_mem 369 (by decide +kernel) rfl
abbrev b_T_aboutFile : ByteArray := prog_4_method_13_code
abbrev y_T_aboutFile : MethodName := ⟨"TapeEnds$Tape", "aboutFile", "(II)I"⟩
theorem mc_T_aboutFile : Cond.code y_T_aboutFile b_T_aboutFile 3 (some .int) ∈ TB := tb_mem 335 (by decide +kernel) rfl
theorem ms_T_aboutFile : Cond.selects y_T_aboutFile.cls y_T_aboutFile y_T_aboutFile ∈ TB := tb_mem 334 (by decide +kernel) rfl
theorem mi_T_aboutFile : Cond.instanceMethod y_T_aboutFile ∈ TB := tb_mem 333 (by decide +kernel) rfl
abbrev b_T_aboutBlock : ByteArray := prog_4_method_14_code
abbrev y_T_aboutBlock : MethodName := ⟨"TapeEnds$Tape", "aboutBlock", "(III)I"⟩
theorem mc_T_aboutBlock : Cond.code y_T_aboutBlock b_T_aboutBlock 5 (some .int) ∈ TB := tb_mem 347 (by decide +kernel) rfl
theorem ms_T_aboutBlock : Cond.selects y_T_aboutBlock.cls y_T_aboutBlock y_T_aboutBlock ∈ TB := tb_mem 346 (by decide +kernel) rfl
theorem mi_T_aboutBlock : Cond.instanceMethod y_T_aboutBlock ∈ TB := tb_mem 345 (by decide +kernel) rfl
abbrev b_T_kindOfFoot : ByteArray := prog_4_method_15_code
abbrev y_T_kindOfFoot : MethodName := ⟨"TapeEnds$Tape", "kindOfFoot", "(I)I"⟩
theorem mc_T_kindOfFoot : Cond.code y_T_kindOfFoot b_T_kindOfFoot 3 (some .int) ∈ TB := tb_mem 359 (by decide +kernel) rfl
theorem ms_T_kindOfFoot : Cond.selects y_T_kindOfFoot.cls y_T_kindOfFoot y_T_kindOfFoot ∈ TB := tb_mem 358 (by decide +kernel) rfl
theorem mi_T_kindOfFoot : Cond.instanceMethod y_T_kindOfFoot ∈ TB := tb_mem 357 (by decide +kernel) rfl
abbrev b_T_allBlocks : ByteArray := prog_4_method_16_code
abbrev y_T_allBlocks : MethodName := ⟨"TapeEnds$Tape", "allBlocks", "()I"⟩
theorem mc_T_allBlocks : Cond.code y_T_allBlocks b_T_allBlocks 1 (some .int) ∈ TB := tb_mem 205 (by decide +kernel) rfl
theorem ms_T_allBlocks : Cond.selects y_T_allBlocks.cls y_T_allBlocks y_T_allBlocks ∈ TB := tb_mem 204 (by decide +kernel) rfl
theorem mi_T_allBlocks : Cond.instanceMethod y_T_allBlocks ∈ TB := tb_mem 203 (by decide +kernel) rfl
abbrev b_T_greatestData : ByteArray := prog_4_method_17_code
abbrev y_T_greatestData : MethodName := ⟨"TapeEnds$Tape", "greatestData", "(I)I"⟩
theorem mc_T_greatestData : Cond.code y_T_greatestData b_T_greatestData 2 (some .int) ∈ TB := tb_mem 379 (by decide +kernel) rfl
theorem ms_T_greatestData : Cond.selects y_T_greatestData.cls y_T_greatestData y_T_greatestData ∈ TB := tb_mem 378 (by decide +kernel) rfl
theorem mi_T_greatestData : Cond.instanceMethod y_T_greatestData ∈ TB := tb_mem 377 (by decide +kernel) rfl
abbrev b_T_blocksThatFit : ByteArray := prog_4_method_18_code
abbrev y_T_blocksThatFit : MethodName := ⟨"TapeEnds$Tape", "blocksThatFit", "(I)I"⟩
theorem mc_T_blocksThatFit : Cond.code y_T_blocksThatFit b_T_blocksThatFit 3 (some .int) ∈ TB := tb_mem 387 (by decide +kernel) rfl
theorem ms_T_blocksThatFit : Cond.selects y_T_blocksThatFit.cls y_T_blocksThatFit y_T_blocksThatFit ∈ TB := tb_mem 386 (by decide +kernel) rfl
theorem mi_T_blocksThatFit : Cond.instanceMethod y_T_blocksThatFit ∈ TB := tb_mem 385 (by decide +kernel) rfl
abbrev b_T_aboutNearest : ByteArray := prog_4_method_19_code
abbrev y_T_aboutNearest : MethodName := ⟨"TapeEnds$Tape", "aboutNearest", "(I)I"⟩
theorem mc_T_aboutNearest : Cond.code y_T_aboutNearest b_T_aboutNearest 8 (some .int) ∈ TB := tb_mem 395 (by decide +kernel) rfl
theorem ms_T_aboutNearest : Cond.selects y_T_aboutNearest.cls y_T_aboutNearest y_T_aboutNearest ∈ TB := tb_mem 394 (by decide +kernel) rfl
theorem mi_T_aboutNearest : Cond.instanceMethod y_T_aboutNearest ∈ TB := tb_mem 393 (by decide +kernel) rfl
abbrev b_T_isFile : ByteArray := prog_4_method_20_code
abbrev y_T_isFile : MethodName := ⟨"TapeEnds$Tape", "isFile", "(I)Z"⟩
theorem mc_T_isFile : Cond.code y_T_isFile b_T_isFile 2 (some .boolean) ∈ TB := tb_mem 252 (by decide +kernel) rfl
theorem ms_T_isFile : Cond.selects y_T_isFile.cls y_T_isFile y_T_isFile ∈ TB := tb_mem 6 (by decide +kernel) rfl
theorem mi_T_isFile : Cond.instanceMethod y_T_isFile ∈ TB := tb_mem 251 (by decide +kernel) rfl
abbrev b_T_isBlock : ByteArray := prog_4_method_21_code
abbrev y_T_isBlock : MethodName := ⟨"TapeEnds$Tape", "isBlock", "(II)Z"⟩
theorem mc_T_isBlock : Cond.code y_T_isBlock b_T_isBlock 3 (some .boolean) ∈ TB := tb_mem 300 (by decide +kernel) rfl
theorem ms_T_isBlock : Cond.selects y_T_isBlock.cls y_T_isBlock y_T_isBlock ∈ TB := tb_mem 9 (by decide +kernel) rfl
theorem mi_T_isBlock : Cond.instanceMethod y_T_isBlock ∈ TB := tb_mem 299 (by decide +kernel) rfl
abbrev b_T_rowOf : ByteArray := prog_4_method_22_code
abbrev y_T_rowOf : MethodName := ⟨"TapeEnds$Tape", "rowOf", "(II)I"⟩
theorem mc_T_rowOf : Cond.code y_T_rowOf b_T_rowOf 3 (some .int) ∈ TB := tb_mem 236 (by decide +kernel) rfl
theorem ms_T_rowOf : Cond.selects y_T_rowOf.cls y_T_rowOf y_T_rowOf ∈ TB := tb_mem 4 (by decide +kernel) rfl
theorem mi_T_rowOf : Cond.instanceMethod y_T_rowOf ∈ TB := tb_mem 235 (by decide +kernel) rfl
abbrev b_T_wholeLength : ByteArray := prog_4_method_23_code
abbrev y_T_wholeLength : MethodName := ⟨"TapeEnds$Tape", "wholeLength", "(I)I"⟩
theorem mc_T_wholeLength : Cond.code y_T_wholeLength b_T_wholeLength 2 (some .int) ∈ TB := tb_mem 240 (by decide +kernel) rfl
theorem ms_T_wholeLength : Cond.selects y_T_wholeLength.cls y_T_wholeLength y_T_wholeLength ∈ TB := tb_mem 5 (by decide +kernel) rfl
theorem mi_T_wholeLength : Cond.instanceMethod y_T_wholeLength ∈ TB := tb_mem 239 (by decide +kernel) rfl
abbrev b_T_totalOf : ByteArray := prog_4_method_24_code
abbrev y_T_totalOf : MethodName := ⟨"TapeEnds$Tape", "totalOf", "([II)I"⟩
theorem mc_T_totalOf : Cond.code y_T_totalOf b_T_totalOf 5 (some .int) ∈ TB := tb_mem 339 (by decide +kernel) rfl
theorem ms_T_totalOf : Cond.selects y_T_totalOf.cls y_T_totalOf y_T_totalOf ∈ TB := tb_mem 14 (by decide +kernel) rfl
theorem mi_T_totalOf : Cond.instanceMethod y_T_totalOf ∈ TB := tb_mem 338 (by decide +kernel) rfl
abbrev b_T_feetOfFirst : ByteArray := prog_4_method_25_code
abbrev y_T_feetOfFirst : MethodName := ⟨"TapeEnds$Tape", "feetOfFirst", "(II)I"⟩
theorem mc_T_feetOfFirst : Cond.code y_T_feetOfFirst b_T_feetOfFirst 5 (some .int) ∈ TB := tb_mem 232 (by decide +kernel) rfl
theorem ms_T_feetOfFirst : Cond.selects y_T_feetOfFirst.cls y_T_feetOfFirst y_T_feetOfFirst ∈ TB := tb_mem 3 (by decide +kernel) rfl
theorem mi_T_feetOfFirst : Cond.instanceMethod y_T_feetOfFirst ∈ TB := tb_mem 231 (by decide +kernel) rfl
abbrev b_T_gap : ByteArray := prog_4_method_26_code
abbrev y_T_gap : MethodName := ⟨"TapeEnds$Tape", "gap", "()I"⟩
theorem mc_T_gap : Cond.code y_T_gap b_T_gap 1 (some .int) ∈ TB := tb_mem 228 (by decide +kernel) rfl
theorem ms_T_gap : Cond.selects y_T_gap.cls y_T_gap y_T_gap ∈ TB := tb_mem 2 (by decide +kernel) rfl
theorem mi_T_gap : Cond.instanceMethod y_T_gap ∈ TB := tb_mem 227 (by decide +kernel) rfl
abbrev b_T_endInGap : ByteArray := prog_4_method_27_code
abbrev y_T_endInGap : MethodName := ⟨"TapeEnds$Tape", "endInGap", "(I)I"⟩
theorem mc_T_endInGap : Cond.code y_T_endInGap b_T_endInGap 3 (some .int) ∈ TB := tb_mem 256 (by decide +kernel) rfl
theorem ms_T_endInGap : Cond.selects y_T_endInGap.cls y_T_endInGap y_T_endInGap ∈ TB := tb_mem 7 (by decide +kernel) rfl
theorem mi_T_endInGap : Cond.instanceMethod y_T_endInGap ∈ TB := tb_mem 255 (by decide +kernel) rfl
abbrev b_T_isInGap : ByteArray := prog_4_method_28_code
abbrev y_T_isInGap : MethodName := ⟨"TapeEnds$Tape", "isInGap", "(II)Z"⟩
theorem mc_T_isInGap : Cond.code y_T_isInGap b_T_isInGap 3 (some .boolean) ∈ TB := tb_mem 324 (by decide +kernel) rfl
theorem ms_T_isInGap : Cond.selects y_T_isInGap.cls y_T_isInGap y_T_isInGap ∈ TB := tb_mem 13 (by decide +kernel) rfl
theorem mi_T_isInGap : Cond.instanceMethod y_T_isInGap ∈ TB := tb_mem 323 (by decide +kernel) rfl
abbrev b_T_lowerEnd : ByteArray := prog_4_method_29_code
abbrev y_T_lowerEnd : MethodName := ⟨"TapeEnds$Tape", "lowerEnd", "(II)I"⟩
theorem mc_T_lowerEnd : Cond.code y_T_lowerEnd b_T_lowerEnd 3 (some .int) ∈ TB := tb_mem 308 (by decide +kernel) rfl
theorem ms_T_lowerEnd : Cond.selects y_T_lowerEnd.cls y_T_lowerEnd y_T_lowerEnd ∈ TB := tb_mem 11 (by decide +kernel) rfl
theorem mi_T_lowerEnd : Cond.instanceMethod y_T_lowerEnd ∈ TB := tb_mem 307 (by decide +kernel) rfl
abbrev b_T_startOfReading : ByteArray := prog_4_method_30_code
abbrev y_T_startOfReading : MethodName := ⟨"TapeEnds$Tape", "startOfReading", "(III)I"⟩
theorem mc_T_startOfReading : Cond.code y_T_startOfReading b_T_startOfReading 5 (some .int) ∈ TB := tb_mem 304 (by decide +kernel) rfl
theorem ms_T_startOfReading : Cond.selects y_T_startOfReading.cls y_T_startOfReading y_T_startOfReading ∈ TB := tb_mem 10 (by decide +kernel) rfl
theorem mi_T_startOfReading : Cond.instanceMethod y_T_startOfReading ∈ TB := tb_mem 303 (by decide +kernel) rfl
abbrev b_T_travelToRead : ByteArray := prog_4_method_31_code
abbrev y_T_travelToRead : MethodName := ⟨"TapeEnds$Tape", "travelToRead", "(III)I"⟩
theorem mc_T_travelToRead : Cond.code y_T_travelToRead b_T_travelToRead 4 (some .int) ∈ TB := tb_mem 351 (by decide +kernel) rfl
theorem ms_T_travelToRead : Cond.selects y_T_travelToRead.cls y_T_travelToRead y_T_travelToRead ∈ TB := tb_mem 15 (by decide +kernel) rfl
theorem mi_T_travelToRead : Cond.instanceMethod y_T_travelToRead ∈ TB := tb_mem 350 (by decide +kernel) rfl
abbrev b_T_rowWithData : ByteArray := prog_4_method_32_code
abbrev y_T_rowWithData : MethodName := ⟨"TapeEnds$Tape", "rowWithData", "(II)I"⟩
theorem mc_T_rowWithData : Cond.code y_T_rowWithData b_T_rowWithData 7 (some .int) ∈ TB := tb_mem 320 (by decide +kernel) rfl
theorem ms_T_rowWithData : Cond.selects y_T_rowWithData.cls y_T_rowWithData y_T_rowWithData ∈ TB := tb_mem 12 (by decide +kernel) rfl
theorem mi_T_rowWithData : Cond.instanceMethod y_T_rowWithData ∈ TB := tb_mem 319 (by decide +kernel) rfl
theorem k_L_9 : CI "TapeEndsLaw" 9 y_E_init b_E_init 2 0 := ⟨rfl, tb_mem 62 (by decide +kernel) rfl, mi_E_init, in_E, mc_E_init, by decide +kernel, by decide +kernel, by decide +kernel⟩
theorem kx_E_1 : Cond.methodLink "TapeEnds" 1 ⟨"java/lang/Object", "<init>", "()V"⟩ ∈ TB := tb_mem 65 (by decide +kernel) rfl
theorem xi_Object_init : Cond.instanceMethod ({ cls := "java/lang/Object", name := "<init>", desc := "()V" } : MethodName) ∈ TB := tb_mem 66 (by decide +kernel) rfl
theorem xc_Object_init : Cond.code ({ cls := "java/lang/Object", name := "<init>", desc := "()V" } : MethodName) object_method_1_code (1 : Nat) (Option.none : Option FieldType) ∈ TB := tb_mem 67 (by decide +kernel) rfl
theorem k_E_9 : CI "TapeEnds" 9 y_T_init b_T_init 1 0 := ⟨rfl, tb_mem 70 (by decide +kernel) rfl, mi_T_init, in_T, mc_T_init, by decide +kernel, by decide +kernel, by decide +kernel⟩
theorem kx_T_3 : Cond.methodLink "TapeEnds$Tape" 3 ⟨"java/lang/Object", "<init>", "()V"⟩ ∈ TB := tb_mem 73 (by decide +kernel) rfl
theorem k_E_32 : CI "TapeEnds" 32 y_P_init b_P_init 1 0 := ⟨rfl, tb_mem 118 (by decide +kernel) rfl, mi_P_init, in_P, mc_P_init, by decide +kernel, by decide +kernel, by decide +kernel⟩
theorem kx_P_3 : Cond.methodLink "TapeEnds$Pad" 3 ⟨"java/lang/Object", "<init>", "()V"⟩ ∈ TB := tb_mem 121 (by decide +kernel) rfl
theorem k_E_39 : CI "TapeEnds" 39 y_R_init b_R_init 2 1 := ⟨rfl, tb_mem 133 (by decide +kernel) rfl, mi_R_init, in_R, mc_R_init, by decide +kernel, by decide +kernel, by decide +kernel⟩
theorem kx_R_5 : Cond.methodLink "TapeEnds$OrderReader" 5 ⟨"java/lang/Object", "<init>", "()V"⟩ ∈ TB := tb_mem 136 (by decide +kernel) rfl
theorem k_L_13 : CW "TapeEndsLaw" 13 y_E_length b_E_length 2 (some .int) 1 := ⟨tb_mem 187 (by decide +kernel) rfl, mi_E_length, ms_E_length, in_E, mc_E_length, by decide +kernel, by decide +kernel, by decide +kernel⟩
theorem k_E_50 : CW "TapeEnds" 50 y_T_copyFrom b_T_copyFrom 2 none 1 := ⟨tb_mem 191 (by decide +kernel) rfl, mi_T_copyFrom, ms_T_copyFrom, in_T, mc_T_copyFrom, by decide +kernel, by decide +kernel, by decide +kernel⟩
theorem kx_T_52 : Cond.methodLink "TapeEnds$Tape" 52 ⟨"java/lang/System", "arraycopy", "(Ljava/lang/Object;ILjava/lang/Object;II)V"⟩ ∈ TB := tb_mem 195 (by decide +kernel) rfl
theorem xs_System_arraycopy : Cond.static ({ cls := "java/lang/System", name := "arraycopy", desc := "(Ljava/lang/Object;ILjava/lang/Object;II)V" } : MethodName) ∈ TB := tb_mem 196 (by decide +kernel) rfl
theorem xn_System_arraycopy : Cond.native ({ cls := "java/lang/System", name := "arraycopy", desc := "(Ljava/lang/Object;ILjava/lang/Object;II)V" } : MethodName) ∈ TB := tb_mem 197 (by decide +kernel) rfl
theorem k_E_54 : CW "TapeEnds" 54 y_T_setFeet b_T_setFeet 3 (some .int) 1 := ⟨tb_mem 198 (by decide +kernel) rfl, mi_T_setFeet, ms_T_setFeet, in_T, mc_T_setFeet, by decide +kernel, by decide +kernel, by decide +kernel⟩
theorem k_T_58 : CW "TapeEnds$Tape" 58 y_T_allBlocks b_T_allBlocks 1 (some .int) 0 := ⟨tb_mem 202 (by decide +kernel) rfl, mi_T_allBlocks, ms_T_allBlocks, in_T, mc_T_allBlocks, by decide +kernel, by decide +kernel, by decide +kernel⟩
theorem kx_T_62 : Cond.methodLink "TapeEnds$Tape" 62 ⟨"java/lang/Math", "min", "(II)I"⟩ ∈ TB := tb_mem 206 (by decide +kernel) rfl
theorem xs_Math_min : Cond.static ({ cls := "java/lang/Math", name := "min", desc := "(II)I" } : MethodName) ∈ TB := tb_mem 207 (by decide +kernel) rfl
theorem xc_Math_min : Cond.code ({ cls := "java/lang/Math", name := "min", desc := "(II)I" } : MethodName) prog_7_method_69_code (2 : Nat) (Option.some FieldType.int) ∈ TB := tb_mem 208 (by decide +kernel) rfl
theorem k_E_58 : CW "TapeEnds" 58 y_E_recorded b_E_recorded 3 (some .int) 1 := ⟨tb_mem 209 (by decide +kernel) rfl, mi_E_recorded, ms_E_recorded, in_E, mc_E_recorded, by decide +kernel, by decide +kernel, by decide +kernel⟩
theorem k_E_139 : CW "TapeEnds" 139 y_E_dropOldest b_E_dropOldest 3 none 0 := ⟨tb_mem 213 (by decide +kernel) rfl, mi_E_dropOldest, ms_E_dropOldest, in_E, mc_E_dropOldest, by decide +kernel, by decide +kernel, by decide +kernel⟩
theorem k_L_18 : CW "TapeEndsLaw" 18 y_E_tune b_E_tune 3 (some .int) 2 := ⟨tb_mem 217 (by decide +kernel) rfl, mi_E_tune, ms_E_tune, in_E, mc_E_tune, by decide +kernel, by decide +kernel, by decide +kernel⟩
theorem k_E_61 : CW "TapeEnds" 61 y_T_setGapAndMark b_T_setGapAndMark 4 (some .int) 2 := ⟨tb_mem 221 (by decide +kernel) rfl, mi_T_setGapAndMark, ms_T_setGapAndMark, in_T, mc_T_setGapAndMark, by decide +kernel, by decide +kernel, by decide +kernel⟩
theorem k_T_68 : CW "TapeEnds$Tape" 68 y_T_gap b_T_gap 1 (some .int) 0 := ⟨tb_mem 225 (by decide +kernel) rfl, mi_T_gap, ms_T_gap, in_T, mc_T_gap, by decide +kernel, by decide +kernel, by decide +kernel⟩
theorem k_T_106 : CW "TapeEnds$Tape" 106 y_T_feetOfFirst b_T_feetOfFirst 5 (some .int) 2 := ⟨tb_mem 229 (by decide +kernel) rfl, mi_T_feetOfFirst, ms_T_feetOfFirst, in_T, mc_T_feetOfFirst, by decide +kernel, by decide +kernel, by decide +kernel⟩
theorem k_T_82 : CW "TapeEnds$Tape" 82 y_T_rowOf b_T_rowOf 3 (some .int) 2 := ⟨tb_mem 233 (by decide +kernel) rfl, mi_T_rowOf, ms_T_rowOf, in_T, mc_T_rowOf, by decide +kernel, by decide +kernel, by decide +kernel⟩
theorem k_T_113 : CW "TapeEnds$Tape" 113 y_T_wholeLength b_T_wholeLength 2 (some .int) 1 := ⟨tb_mem 237 (by decide +kernel) rfl, mi_T_wholeLength, ms_T_wholeLength, in_T, mc_T_wholeLength, by decide +kernel, by decide +kernel, by decide +kernel⟩
theorem k_L_23 : CW "TapeEndsLaw" 23 y_E_write b_E_write 4 (some .int) 3 := ⟨tb_mem 241 (by decide +kernel) rfl, mi_E_write, ms_E_write, in_E, mc_E_write, by decide +kernel, by decide +kernel, by decide +kernel⟩
theorem k_E_65 : CW "TapeEnds" 65 y_T_addBlock b_T_addBlock 6 (some .int) 3 := ⟨tb_mem 245 (by decide +kernel) rfl, mi_T_addBlock, ms_T_addBlock, in_T, mc_T_addBlock, by decide +kernel, by decide +kernel, by decide +kernel⟩
theorem k_T_71 : CW "TapeEnds$Tape" 71 y_T_isFile b_T_isFile 2 (some .boolean) 1 := ⟨tb_mem 249 (by decide +kernel) rfl, mi_T_isFile, ms_T_isFile, in_T, mc_T_isFile, by decide +kernel, by decide +kernel, by decide +kernel⟩
theorem k_T_75 : CW "TapeEnds$Tape" 75 y_T_endInGap b_T_endInGap 3 (some .int) 1 := ⟨tb_mem 253 (by decide +kernel) rfl, mi_T_endInGap, ms_T_endInGap, in_T, mc_T_endInGap, by decide +kernel, by decide +kernel, by decide +kernel⟩
theorem k_T_79 : CW "TapeEnds$Tape" 79 y_T_travelTo b_T_travelTo 3 (some .int) 1 := ⟨tb_mem 257 (by decide +kernel) rfl, mi_T_travelTo, ms_T_travelTo, in_T, mc_T_travelTo, by decide +kernel, by decide +kernel, by decide +kernel⟩
theorem kx_T_102 : Cond.methodLink "TapeEnds$Tape" 102 ⟨"java/lang/Math", "abs", "(I)I"⟩ ∈ TB := tb_mem 261 (by decide +kernel) rfl
theorem xs_Math_abs : Cond.static ({ cls := "java/lang/Math", name := "abs", desc := "(I)I" } : MethodName) ∈ TB := tb_mem 262 (by decide +kernel) rfl
theorem xc_Math_abs : Cond.code ({ cls := "java/lang/Math", name := "abs", desc := "(I)I" } : MethodName) prog_7_method_59_code (1 : Nat) (Option.some FieldType.int) ∈ TB := tb_mem 263 (by decide +kernel) rfl
theorem k_L_28 : CW "TapeEndsLaw" 28 y_E_cut b_E_cut 3 (some .int) 2 := ⟨tb_mem 265 (by decide +kernel) rfl, mi_E_cut, ms_E_cut, in_E, mc_E_cut, by decide +kernel, by decide +kernel, by decide +kernel⟩
theorem k_E_69 : CW "TapeEnds" 69 y_T_keepBlocks b_T_keepBlocks 4 (some .int) 2 := ⟨tb_mem 269 (by decide +kernel) rfl, mi_T_keepBlocks, ms_T_keepBlocks, in_T, mc_T_keepBlocks, by decide +kernel, by decide +kernel, by decide +kernel⟩
theorem k_L_32 : CW "TapeEndsLaw" 32 y_E_move b_E_move 2 (some .int) 1 := ⟨tb_mem 273 (by decide +kernel) rfl, mi_E_move, ms_E_move, in_E, mc_E_move, by decide +kernel, by decide +kernel, by decide +kernel⟩
theorem k_E_72 : CW "TapeEnds" 72 y_T_moveHead b_T_moveHead 2 (some .int) 1 := ⟨tb_mem 277 (by decide +kernel) rfl, mi_T_moveHead, ms_T_moveHead, in_T, mc_T_moveHead, by decide +kernel, by decide +kernel, by decide +kernel⟩
theorem k_L_36 : CW "TapeEndsLaw" 36 y_E_rewind b_E_rewind 1 (some .int) 0 := ⟨tb_mem 281 (by decide +kernel) rfl, mi_E_rewind, ms_E_rewind, in_E, mc_E_rewind, by decide +kernel, by decide +kernel, by decide +kernel⟩
theorem k_E_75 : CW "TapeEnds" 75 y_T_goToNearerEnd b_T_goToNearerEnd 1 (some .int) 0 := ⟨tb_mem 285 (by decide +kernel) rfl, mi_T_goToNearerEnd, ms_T_goToNearerEnd, in_T, mc_T_goToNearerEnd, by decide +kernel, by decide +kernel, by decide +kernel⟩
theorem k_L_41 : CW "TapeEndsLaw" 41 y_E_read b_E_read 4 (some .int) 3 := ⟨tb_mem 289 (by decide +kernel) rfl, mi_E_read, ms_E_read, in_E, mc_E_read, by decide +kernel, by decide +kernel, by decide +kernel⟩
theorem k_E_79 : CW "TapeEnds" 79 y_T_passBlock b_T_passBlock 5 (some .int) 3 := ⟨tb_mem 293 (by decide +kernel) rfl, mi_T_passBlock, ms_T_passBlock, in_T, mc_T_passBlock, by decide +kernel, by decide +kernel, by decide +kernel⟩
theorem k_T_85 : CW "TapeEnds$Tape" 85 y_T_isBlock b_T_isBlock 3 (some .boolean) 2 := ⟨tb_mem 297 (by decide +kernel) rfl, mi_T_isBlock, ms_T_isBlock, in_T, mc_T_isBlock, by decide +kernel, by decide +kernel, by decide +kernel⟩
theorem k_T_89 : CW "TapeEnds$Tape" 89 y_T_startOfReading b_T_startOfReading 5 (some .int) 3 := ⟨tb_mem 301 (by decide +kernel) rfl, mi_T_startOfReading, ms_T_startOfReading, in_T, mc_T_startOfReading, by decide +kernel, by decide +kernel, by decide +kernel⟩
theorem k_T_116 : CW "TapeEnds$Tape" 116 y_T_lowerEnd b_T_lowerEnd 3 (some .int) 2 := ⟨tb_mem 305 (by decide +kernel) rfl, mi_T_lowerEnd, ms_T_lowerEnd, in_T, mc_T_lowerEnd, by decide +kernel, by decide +kernel, by decide +kernel⟩
theorem k_L_45 : CW "TapeEndsLaw" 45 y_E_splice b_E_splice 3 (some .int) 2 := ⟨tb_mem 309 (by decide +kernel) rfl, mi_E_splice, ms_E_splice, in_E, mc_E_splice, by decide +kernel, by decide +kernel, by decide +kernel⟩
theorem k_E_82 : CW "TapeEnds" 82 y_T_takeOut b_T_takeOut 7 (some .int) 2 := ⟨tb_mem 313 (by decide +kernel) rfl, mi_T_takeOut, ms_T_takeOut, in_T, mc_T_takeOut, by decide +kernel, by decide +kernel, by decide +kernel⟩
theorem k_T_93 : CW "TapeEnds$Tape" 93 y_T_rowWithData b_T_rowWithData 7 (some .int) 2 := ⟨tb_mem 317 (by decide +kernel) rfl, mi_T_rowWithData, ms_T_rowWithData, in_T, mc_T_rowWithData, by decide +kernel, by decide +kernel, by decide +kernel⟩
theorem k_T_96 : CW "TapeEnds$Tape" 96 y_T_isInGap b_T_isInGap 3 (some .boolean) 2 := ⟨tb_mem 321 (by decide +kernel) rfl, mi_T_isInGap, ms_T_isInGap, in_T, mc_T_isInGap, by decide +kernel, by decide +kernel, by decide +kernel⟩
theorem kx_T_99 : Cond.methodLink "TapeEnds$Tape" 99 ⟨"java/lang/Math", "max", "(II)I"⟩ ∈ TB := tb_mem 325 (by decide +kernel) rfl
theorem xs_Math_max : Cond.static ({ cls := "java/lang/Math", name := "max", desc := "(II)I" } : MethodName) ∈ TB := tb_mem 326 (by decide +kernel) rfl
theorem xc_Math_max : Cond.code ({ cls := "java/lang/Math", name := "max", desc := "(II)I" } : MethodName) prog_7_method_65_code (2 : Nat) (Option.some FieldType.int) ∈ TB := tb_mem 327 (by decide +kernel) rfl
theorem k_L_49 : CW "TapeEndsLaw" 49 y_E_ofFile b_E_ofFile 3 (some .int) 2 := ⟨tb_mem 328 (by decide +kernel) rfl, mi_E_ofFile, ms_E_ofFile, in_E, mc_E_ofFile, by decide +kernel, by decide +kernel, by decide +kernel⟩
theorem k_E_85 : CW "TapeEnds" 85 y_T_aboutFile b_T_aboutFile 3 (some .int) 2 := ⟨tb_mem 332 (by decide +kernel) rfl, mi_T_aboutFile, ms_T_aboutFile, in_T, mc_T_aboutFile, by decide +kernel, by decide +kernel, by decide +kernel⟩
theorem k_T_109 : CW "TapeEnds$Tape" 109 y_T_totalOf b_T_totalOf 5 (some .int) 2 := ⟨tb_mem 336 (by decide +kernel) rfl, mi_T_totalOf, ms_T_totalOf, in_T, mc_T_totalOf, by decide +kernel, by decide +kernel, by decide +kernel⟩
theorem k_L_53 : CW "TapeEndsLaw" 53 y_E_ofBlock b_E_ofBlock 4 (some .int) 3 := ⟨tb_mem 340 (by decide +kernel) rfl, mi_E_ofBlock, ms_E_ofBlock, in_E, mc_E_ofBlock, by decide +kernel, by decide +kernel, by decide +kernel⟩
theorem k_E_88 : CW "TapeEnds" 88 y_T_aboutBlock b_T_aboutBlock 5 (some .int) 3 := ⟨tb_mem 344 (by decide +kernel) rfl, mi_T_aboutBlock, ms_T_aboutBlock, in_T, mc_T_aboutBlock, by decide +kernel, by decide +kernel, by decide +kernel⟩
theorem k_T_119 : CW "TapeEnds$Tape" 119 y_T_travelToRead b_T_travelToRead 4 (some .int) 3 := ⟨tb_mem 348 (by decide +kernel) rfl, mi_T_travelToRead, ms_T_travelToRead, in_T, mc_T_travelToRead, by decide +kernel, by decide +kernel, by decide +kernel⟩
theorem k_L_57 : CW "TapeEndsLaw" 57 y_E_at b_E_at 2 (some .int) 1 := ⟨tb_mem 352 (by decide +kernel) rfl, mi_E_at, ms_E_at, in_E, mc_E_at, by decide +kernel, by decide +kernel, by decide +kernel⟩
theorem k_E_91 : CW "TapeEnds" 91 y_T_kindOfFoot b_T_kindOfFoot 3 (some .int) 1 := ⟨tb_mem 356 (by decide +kernel) rfl, mi_T_kindOfFoot, ms_T_kindOfFoot, in_T, mc_T_kindOfFoot, by decide +kernel, by decide +kernel, by decide +kernel⟩
theorem k_L_61 : CW "TapeEndsLaw" 61 y_E_count b_E_count 2 (some .int) 1 := ⟨tb_mem 360 (by decide +kernel) rfl, mi_E_count, ms_E_count, in_E, mc_E_count, by decide +kernel, by decide +kernel, by decide +kernel⟩
theorem k_E_94 : CW "TapeEnds" 94 y_P_size b_P_size 1 (some .int) 0 := ⟨tb_mem 364 (by decide +kernel) rfl, mi_P_size, ms_P_size, in_P, mc_P_size, by decide +kernel, by decide +kernel, by decide +kernel⟩
theorem k_E_97 : CW "TapeEnds" 97 y_T_aboutTape b_T_aboutTape 2 (some .int) 1 := ⟨tb_mem 368 (by decide +kernel) rfl, mi_T_aboutTape, ms_T_aboutTape, in_T, mc_T_aboutTape, by decide +kernel, by decide +kernel, by decide +kernel⟩
theorem k_L_65 : CW "TapeEndsLaw" 65 y_E_fits b_E_fits 2 (some .int) 1 := ⟨tb_mem 372 (by decide +kernel) rfl, mi_E_fits, ms_E_fits, in_E, mc_E_fits, by decide +kernel, by decide +kernel, by decide +kernel⟩
theorem k_E_100 : CW "TapeEnds" 100 y_T_greatestData b_T_greatestData 2 (some .int) 1 := ⟨tb_mem 376 (by decide +kernel) rfl, mi_T_greatestData, ms_T_greatestData, in_T, mc_T_greatestData, by decide +kernel, by decide +kernel, by decide +kernel⟩
theorem k_L_69 : CW "TapeEndsLaw" 69 y_E_rooms b_E_rooms 2 (some .int) 1 := ⟨tb_mem 380 (by decide +kernel) rfl, mi_E_rooms, ms_E_rooms, in_E, mc_E_rooms, by decide +kernel, by decide +kernel, by decide +kernel⟩
theorem k_E_103 : CW "TapeEnds" 103 y_T_blocksThatFit b_T_blocksThatFit 3 (some .int) 1 := ⟨tb_mem 384 (by decide +kernel) rfl, mi_T_blocksThatFit, ms_T_blocksThatFit, in_T, mc_T_blocksThatFit, by decide +kernel, by decide +kernel, by decide +kernel⟩
theorem k_L_73 : CW "TapeEndsLaw" 73 y_E_nearest b_E_nearest 2 (some .int) 1 := ⟨tb_mem 388 (by decide +kernel) rfl, mi_E_nearest, ms_E_nearest, in_E, mc_E_nearest, by decide +kernel, by decide +kernel, by decide +kernel⟩
theorem k_E_106 : CW "TapeEnds" 106 y_T_aboutNearest b_T_aboutNearest 8 (some .int) 1 := ⟨tb_mem 392 (by decide +kernel) rfl, mi_T_aboutNearest, ms_T_aboutNearest, in_T, mc_T_aboutNearest, by decide +kernel, by decide +kernel, by decide +kernel⟩
theorem k_L_79 : CW "TapeEndsLaw" 79 y_E_put b_E_put 3 (some .int) 1 := ⟨tb_mem 396 (by decide +kernel) rfl, mi_E_put, ms_E_put, in_E, mc_E_put, by decide +kernel, by decide +kernel, by decide +kernel⟩
theorem k_E_109 : CW "TapeEnds" 109 y_P_append b_P_append 5 (some .int) 1 := ⟨tb_mem 400 (by decide +kernel) rfl, mi_P_append, ms_P_append, in_P, mc_P_append, by decide +kernel, by decide +kernel, by decide +kernel⟩
theorem k_P_19 : CW "TapeEnds$Pad" 19 y_P_charactersIn b_P_charactersIn 8 (some .int) 1 := ⟨tb_mem 404 (by decide +kernel) rfl, mi_P_charactersIn, ms_P_charactersIn, in_P, mc_P_charactersIn, by decide +kernel, by decide +kernel, by decide +kernel⟩
theorem k_L_84 : CW "TapeEndsLaw" 84 y_E_wipe b_E_wipe 1 (some .int) 0 := ⟨tb_mem 411 (by decide +kernel) rfl, mi_E_wipe, ms_E_wipe, in_E, mc_E_wipe, by decide +kernel, by decide +kernel, by decide +kernel⟩
theorem k_E_113 : CW "TapeEnds" 113 y_P_clear b_P_clear 2 (some .int) 0 := ⟨tb_mem 415 (by decide +kernel) rfl, mi_P_clear, ms_P_clear, in_P, mc_P_clear, by decide +kernel, by decide +kernel, by decide +kernel⟩
theorem k_L_88 : CW "TapeEndsLaw" 88 y_E_fault b_E_fault 1 (some .int) 0 := ⟨tb_mem 419 (by decide +kernel) rfl, mi_E_fault, ms_E_fault, in_E, mc_E_fault, by decide +kernel, by decide +kernel, by decide +kernel⟩
theorem k_E_116 : CW "TapeEnds" 116 y_R_faultPosition b_R_faultPosition 2 (some .int) 0 := ⟨tb_mem 423 (by decide +kernel) rfl, mi_R_faultPosition, ms_R_faultPosition, in_R, mc_R_faultPosition, by decide +kernel, by decide +kernel, by decide +kernel⟩
theorem k_R_29 : CW "TapeEnds$OrderReader" 29 y_R_startAgain b_R_startAgain 1 none 0 := ⟨tb_mem 427 (by decide +kernel) rfl, mi_R_startAgain, ms_R_startAgain, in_R, mc_R_startAgain, by decide +kernel, by decide +kernel, by decide +kernel⟩
theorem k_R_32 : CW "TapeEnds$OrderReader" 32 y_R_readNext b_R_readNext 1 none 0 := ⟨tb_mem 431 (by decide +kernel) rfl, mi_R_readNext, ms_R_readNext, in_R, mc_R_readNext, by decide +kernel, by decide +kernel, by decide +kernel⟩
theorem k_R_39 : CW "TapeEnds$OrderReader" 39 y_R_pass b_R_pass 2 none 1 := ⟨tb_mem 435 (by decide +kernel) rfl, mi_R_pass, ms_R_pass, in_R, mc_R_pass, by decide +kernel, by decide +kernel, by decide +kernel⟩
theorem k_R_92 : CW "TapeEnds$OrderReader" 92 y_R_passIfThere b_R_passIfThere 2 (some .boolean) 1 := ⟨tb_mem 439 (by decide +kernel) rfl, mi_R_passIfThere, ms_R_passIfThere, in_R, mc_R_passIfThere, by decide +kernel, by decide +kernel, by decide +kernel⟩
theorem k_R_82 : CW "TapeEnds$OrderReader" 82 y_P_characterAt b_P_characterAt 2 (some .char) 1 := ⟨tb_mem 443 (by decide +kernel) rfl, mi_P_characterAt, ms_P_characterAt, in_P, mc_P_characterAt, by decide +kernel, by decide +kernel, by decide +kernel⟩
theorem k_R_43 : CW "TapeEnds$OrderReader" 43 y_R_readOrder b_R_readOrder 1 none 0 := ⟨tb_mem 447 (by decide +kernel) rfl, mi_R_readOrder, ms_R_readOrder, in_R, mc_R_readOrder, by decide +kernel, by decide +kernel, by decide +kernel⟩
theorem k_R_86 : CW "TapeEnds$OrderReader" 86 y_R_readFile b_R_readFile 2 none 1 := ⟨tb_mem 451 (by decide +kernel) rfl, mi_R_readFile, ms_R_readFile, in_R, mc_R_readFile, by decide +kernel, by decide +kernel, by decide +kernel⟩
theorem k_R_89 : CW "TapeEnds$OrderReader" 89 y_R_readNumber b_R_readNumber 3 (some .int) 0 := ⟨tb_mem 455 (by decide +kernel) rfl, mi_R_readNumber, ms_R_readNumber, in_R, mc_R_readNumber, by decide +kernel, by decide +kernel, by decide +kernel⟩
theorem k_R_96 : CW "TapeEnds$OrderReader" 96 y_R_isDigitNext b_R_isDigitNext 2 (some .boolean) 0 := ⟨tb_mem 459 (by decide +kernel) rfl, mi_R_isDigitNext, ms_R_isDigitNext, in_R, mc_R_isDigitNext, by decide +kernel, by decide +kernel, by decide +kernel⟩
theorem k_R_35 : CW "TapeEnds$OrderReader" 35 y_R_hasMore b_R_hasMore 1 (some .boolean) 0 := ⟨tb_mem 463 (by decide +kernel) rfl, mi_R_hasMore, ms_R_hasMore, in_R, mc_R_hasMore, by decide +kernel, by decide +kernel, by decide +kernel⟩
theorem k_R_25 : CW "TapeEnds$OrderReader" 25 y_P_size b_P_size 1 (some .int) 0 := ⟨tb_mem 467 (by decide +kernel) rfl, mi_P_size, ms_P_size, in_P, mc_P_size, by decide +kernel, by decide +kernel, by decide +kernel⟩
theorem k_L_92 : CW "TapeEndsLaw" 92 y_E_carryOut b_E_carryOut 2 (some .int) 0 := ⟨tb_mem 468 (by decide +kernel) rfl, mi_E_carryOut, ms_E_carryOut, in_E, mc_E_carryOut, by decide +kernel, by decide +kernel, by decide +kernel⟩
theorem k_E_119 : CW "TapeEnds" 119 y_E_carryOutOrders b_E_carryOutOrders 2 (some .int) 0 := ⟨tb_mem 472 (by decide +kernel) rfl, mi_E_carryOutOrders, ms_E_carryOutOrders, in_E, mc_E_carryOutOrders, by decide +kernel, by decide +kernel, by decide +kernel⟩
theorem k_E_122 : CW "TapeEnds" 122 y_R_startAgain b_R_startAgain 1 none 0 := ⟨tb_mem 476 (by decide +kernel) rfl, mi_R_startAgain, ms_R_startAgain, in_R, mc_R_startAgain, by decide +kernel, by decide +kernel, by decide +kernel⟩
theorem k_E_125 : CW "TapeEnds" 125 y_R_hasMore b_R_hasMore 1 (some .boolean) 0 := ⟨tb_mem 477 (by decide +kernel) rfl, mi_R_hasMore, ms_R_hasMore, in_R, mc_R_hasMore, by decide +kernel, by decide +kernel, by decide +kernel⟩
theorem k_E_129 : CW "TapeEnds" 129 y_R_readNext b_R_readNext 1 none 0 := ⟨tb_mem 478 (by decide +kernel) rfl, mi_R_readNext, ms_R_readNext, in_R, mc_R_readNext, by decide +kernel, by decide +kernel, by decide +kernel⟩
theorem k_E_132 : CW "TapeEnds" 132 y_R_carryOutOn b_R_carryOutOn 2 (some .int) 1 := ⟨tb_mem 479 (by decide +kernel) rfl, mi_R_carryOutOn, ms_R_carryOutOn, in_R, mc_R_carryOutOn, by decide +kernel, by decide +kernel, by decide +kernel⟩
theorem k_R_59 : CW "TapeEnds$OrderReader" 59 y_T_addBlock b_T_addBlock 6 (some .int) 3 := ⟨tb_mem 483 (by decide +kernel) rfl, mi_T_addBlock, ms_T_addBlock, in_T, mc_T_addBlock, by decide +kernel, by decide +kernel, by decide +kernel⟩
theorem k_R_68 : CW "TapeEnds$OrderReader" 68 y_T_passBlock b_T_passBlock 5 (some .int) 3 := ⟨tb_mem 484 (by decide +kernel) rfl, mi_T_passBlock, ms_T_passBlock, in_T, mc_T_passBlock, by decide +kernel, by decide +kernel, by decide +kernel⟩
theorem k_R_71 : CW "TapeEnds$OrderReader" 71 y_T_keepBlocks b_T_keepBlocks 4 (some .int) 2 := ⟨tb_mem 485 (by decide +kernel) rfl, mi_T_keepBlocks, ms_T_keepBlocks, in_T, mc_T_keepBlocks, by decide +kernel, by decide +kernel, by decide +kernel⟩
theorem k_R_75 : CW "TapeEnds$OrderReader" 75 y_T_moveHead b_T_moveHead 2 (some .int) 1 := ⟨tb_mem 486 (by decide +kernel) rfl, mi_T_moveHead, ms_T_moveHead, in_T, mc_T_moveHead, by decide +kernel, by decide +kernel, by decide +kernel⟩
theorem k_R_79 : CW "TapeEnds$OrderReader" 79 y_T_goToNearerEnd b_T_goToNearerEnd 1 (some .int) 0 := ⟨tb_mem 487 (by decide +kernel) rfl, mi_T_goToNearerEnd, ms_T_goToNearerEnd, in_T, mc_T_goToNearerEnd, by decide +kernel, by decide +kernel, by decide +kernel⟩
theorem k_L_96 : CW "TapeEndsLaw" 96 y_E_undo b_E_undo 1 (some .int) 0 := ⟨tb_mem 488 (by decide +kernel) rfl, mi_E_undo, ms_E_undo, in_E, mc_E_undo, by decide +kernel, by decide +kernel, by decide +kernel⟩
theorem k_L_100 : CW "TapeEndsLaw" 100 y_E_save b_E_save 2 (some .int) 1 := ⟨tb_mem 492 (by decide +kernel) rfl, mi_E_save, ms_E_save, in_E, mc_E_save, by decide +kernel, by decide +kernel, by decide +kernel⟩
theorem k_E_136 : CW "TapeEnds" 136 y_T_allBlocks b_T_allBlocks 1 (some .int) 0 := ⟨tb_mem 496 (by decide +kernel) rfl, mi_T_allBlocks, ms_T_allBlocks, in_T, mc_T_allBlocks, by decide +kernel, by decide +kernel, by decide +kernel⟩
theorem k_L_104 : CW "TapeEndsLaw" 104 y_E_restore b_E_restore 2 (some .int) 1 := ⟨tb_mem 497 (by decide +kernel) rfl, mi_E_restore, ms_E_restore, in_E, mc_E_restore, by decide +kernel, by decide +kernel, by decide +kernel⟩
theorem k_L_12 : CI "TapeEndsLaw" 12 y_M_init b_M_init 1 0 := ⟨rfl, tb_mem 503 (by decide +kernel) rfl, mi_M_init, in_M, mc_M_init, by decide +kernel, by decide +kernel, by decide +kernel⟩
theorem kx_M_1 : Cond.methodLink "TapeEndsModel" 1 ⟨"java/lang/Object", "<init>", "()V"⟩ ∈ TB := tb_mem 506 (by decide +kernel) rfl
theorem k_L_17 : CW "TapeEndsLaw" 17 y_M_length b_M_length 3 (some .int) 1 := ⟨tb_mem 547 (by decide +kernel) rfl, mi_M_length, ms_M_length, in_M, mc_M_length, by decide +kernel, by decide +kernel, by decide +kernel⟩
theorem k_M_26 : CS "TapeEndsModel" 26 y_M_in b_M_in 3 (some .boolean) 3 := ⟨rfl, tb_mem 551 (by decide +kernel) rfl, mz_M_in, in_M, mc_M_in, by decide +kernel, by decide +kernel, by decide +kernel⟩
theorem k_M_82 : CW "TapeEndsModel" 82 y_M_know b_M_know 2 none 0 := ⟨tb_mem 554 (by decide +kernel) rfl, mi_M_know, ms_M_know, in_M, mc_M_know, by decide +kernel, by decide +kernel, by decide +kernel⟩
theorem k_L_22 : CW "TapeEndsLaw" 22 y_M_tune b_M_tune 4 (some .int) 2 := ⟨tb_mem 558 (by decide +kernel) rfl, mi_M_tune, ms_M_tune, in_M, mc_M_tune, by decide +kernel, by decide +kernel, by decide +kernel⟩
theorem k_M_70 : CW "TapeEndsModel" 70 y_M_gap b_M_gap 1 (some .int) 0 := ⟨tb_mem 562 (by decide +kernel) rfl, mi_M_gap, ms_M_gap, in_M, mc_M_gap, by decide +kernel, by decide +kernel, by decide +kernel⟩
theorem k_M_53 : CW "TapeEndsModel" 53 y_M_end b_M_end 2 (some .int) 1 := ⟨tb_mem 566 (by decide +kernel) rfl, mi_M_end, ms_M_end, in_M, mc_M_end, by decide +kernel, by decide +kernel, by decide +kernel⟩
theorem k_M_49 : CW "TapeEndsModel" 49 y_M_allFeet b_M_allFeet 2 (some .int) 1 := ⟨tb_mem 570 (by decide +kernel) rfl, mi_M_allFeet, ms_M_allFeet, in_M, mc_M_allFeet, by decide +kernel, by decide +kernel, by decide +kernel⟩
theorem k_M_46 : CW "TapeEndsModel" 46 y_M_feet b_M_feet 5 (some .int) 2 := ⟨tb_mem 574 (by decide +kernel) rfl, mi_M_feet, ms_M_feet, in_M, mc_M_feet, by decide +kernel, by decide +kernel, by decide +kernel⟩
theorem k_M_42 : CW "TapeEndsModel" 42 y_M_whole b_M_whole 3 (some .int) 2 := ⟨tb_mem 578 (by decide +kernel) rfl, mi_M_whole, ms_M_whole, in_M, mc_M_whole, by decide +kernel, by decide +kernel, by decide +kernel⟩
theorem k_M_38 : CS "TapeEndsModel" 38 y_M_of b_M_of 3 (some .int) 3 := ⟨rfl, tb_mem 582 (by decide +kernel) rfl, mz_M_of, in_M, mc_M_of, by decide +kernel, by decide +kernel, by decide +kernel⟩
theorem k_L_27 : CW "TapeEndsLaw" 27 y_M_write b_M_write 5 (some .int) 3 := ⟨tb_mem 585 (by decide +kernel) rfl, mi_M_write, ms_M_write, in_M, mc_M_write, by decide +kernel, by decide +kernel, by decide +kernel⟩
theorem k_M_85 : CW "TapeEndsModel" 85 y_M_writeFault b_M_writeFault 4 (some .int) 3 := ⟨tb_mem 589 (by decide +kernel) rfl, mi_M_writeFault, ms_M_writeFault, in_M, mc_M_writeFault, by decide +kernel, by decide +kernel, by decide +kernel⟩
theorem k_M_30 : CS "TapeEndsModel" 30 y_M_isFile b_M_isFile 1 (some .boolean) 1 := ⟨rfl, tb_mem 593 (by decide +kernel) rfl, mz_M_isFile, in_M, mc_M_isFile, by decide +kernel, by decide +kernel, by decide +kernel⟩
theorem k_M_88 : CW "TapeEndsModel" 88 y_M_writes b_M_writes 5 (some .int) 3 := ⟨tb_mem 596 (by decide +kernel) rfl, mi_M_writes, ms_M_writes, in_M, mc_M_writes, by decide +kernel, by decide +kernel, by decide +kernel⟩
theorem k_M_74 : CW "TapeEndsModel" 74 y_M_travel b_M_travel 2 none 1 := ⟨tb_mem 600 (by decide +kernel) rfl, mi_M_travel, ms_M_travel, in_M, mc_M_travel, by decide +kernel, by decide +kernel, by decide +kernel⟩
theorem k_M_59 : CS "TapeEndsModel" 59 y_M_apart b_M_apart 2 (some .int) 2 := ⟨rfl, tb_mem 604 (by decide +kernel) rfl, mz_M_apart, in_M, mc_M_apart, by decide +kernel, by decide +kernel, by decide +kernel⟩
theorem k_L_31 : CW "TapeEndsLaw" 31 y_M_cut b_M_cut 4 (some .int) 2 := ⟨tb_mem 608 (by decide +kernel) rfl, mi_M_cut, ms_M_cut, in_M, mc_M_cut, by decide +kernel, by decide +kernel, by decide +kernel⟩
theorem k_M_91 : CW "TapeEndsModel" 91 y_M_cutFault b_M_cutFault 3 (some .int) 2 := ⟨tb_mem 612 (by decide +kernel) rfl, mi_M_cutFault, ms_M_cutFault, in_M, mc_M_cutFault, by decide +kernel, by decide +kernel, by decide +kernel⟩
theorem k_M_94 : CW "TapeEndsModel" 94 y_M_cuts b_M_cuts 4 (some .int) 2 := ⟨tb_mem 616 (by decide +kernel) rfl, mi_M_cuts, ms_M_cuts, in_M, mc_M_cuts, by decide +kernel, by decide +kernel, by decide +kernel⟩
theorem k_L_35 : CW "TapeEndsLaw" 35 y_M_move b_M_move 2 (some .int) 1 := ⟨tb_mem 620 (by decide +kernel) rfl, mi_M_move, ms_M_move, in_M, mc_M_move, by decide +kernel, by decide +kernel, by decide +kernel⟩
theorem k_M_97 : CW "TapeEndsModel" 97 y_M_moves b_M_moves 3 (some .int) 1 := ⟨tb_mem 624 (by decide +kernel) rfl, mi_M_moves, ms_M_moves, in_M, mc_M_moves, by decide +kernel, by decide +kernel, by decide +kernel⟩
theorem k_L_40 : CW "TapeEndsLaw" 40 y_M_rewind b_M_rewind 1 (some .int) 0 := ⟨tb_mem 628 (by decide +kernel) rfl, mi_M_rewind, ms_M_rewind, in_M, mc_M_rewind, by decide +kernel, by decide +kernel, by decide +kernel⟩
theorem k_M_100 : CW "TapeEndsModel" 100 y_M_rewinds b_M_rewinds 1 (some .int) 0 := ⟨tb_mem 632 (by decide +kernel) rfl, mi_M_rewinds, ms_M_rewinds, in_M, mc_M_rewinds, by decide +kernel, by decide +kernel, by decide +kernel⟩
theorem k_L_44 : CW "TapeEndsLaw" 44 y_M_read b_M_read 5 (some .int) 3 := ⟨tb_mem 636 (by decide +kernel) rfl, mi_M_read, ms_M_read, in_M, mc_M_read, by decide +kernel, by decide +kernel, by decide +kernel⟩
theorem k_M_103 : CW "TapeEndsModel" 103 y_M_readFault b_M_readFault 4 (some .int) 3 := ⟨tb_mem 640 (by decide +kernel) rfl, mi_M_readFault, ms_M_readFault, in_M, mc_M_readFault, by decide +kernel, by decide +kernel, by decide +kernel⟩
theorem k_M_78 : CW "TapeEndsModel" 78 y_M_isBlock b_M_isBlock 3 (some .boolean) 2 := ⟨tb_mem 644 (by decide +kernel) rfl, mi_M_isBlock, ms_M_isBlock, in_M, mc_M_isBlock, by decide +kernel, by decide +kernel, by decide +kernel⟩
theorem k_M_106 : CW "TapeEndsModel" 106 y_M_reads b_M_reads 4 (some .int) 3 := ⟨tb_mem 648 (by decide +kernel) rfl, mi_M_reads, ms_M_reads, in_M, mc_M_reads, by decide +kernel, by decide +kernel, by decide +kernel⟩
theorem k_M_66 : CW "TapeEndsModel" 66 y_M_endOf b_M_endOf 6 (some .int) 4 := ⟨tb_mem 652 (by decide +kernel) rfl, mi_M_endOf, ms_M_endOf, in_M, mc_M_endOf, by decide +kernel, by decide +kernel, by decide +kernel⟩
theorem k_M_56 : CW "TapeEndsModel" 56 y_M_lower b_M_lower 3 (some .int) 2 := ⟨tb_mem 656 (by decide +kernel) rfl, mi_M_lower, ms_M_lower, in_M, mc_M_lower, by decide +kernel, by decide +kernel, by decide +kernel⟩
theorem k_M_63 : CW "TapeEndsModel" 63 y_M_upper b_M_upper 3 (some .int) 2 := ⟨tb_mem 660 (by decide +kernel) rfl, mi_M_upper, ms_M_upper, in_M, mc_M_upper, by decide +kernel, by decide +kernel, by decide +kernel⟩
theorem k_L_48 : CW "TapeEndsLaw" 48 y_M_splice b_M_splice 7 (some .int) 2 := ⟨tb_mem 664 (by decide +kernel) rfl, mi_M_splice, ms_M_splice, in_M, mc_M_splice, by decide +kernel, by decide +kernel, by decide +kernel⟩
theorem k_M_109 : CW "TapeEndsModel" 109 y_M_within b_M_within 7 (some .int) 2 := ⟨tb_mem 668 (by decide +kernel) rfl, mi_M_within, ms_M_within, in_M, mc_M_within, by decide +kernel, by decide +kernel, by decide +kernel⟩
theorem k_L_52 : CW "TapeEndsLaw" 52 y_M_ofFile b_M_ofFile 3 (some .int) 2 := ⟨tb_mem 672 (by decide +kernel) rfl, mi_M_ofFile, ms_M_ofFile, in_M, mc_M_ofFile, by decide +kernel, by decide +kernel, by decide +kernel⟩
theorem k_M_112 : CW "TapeEndsModel" 112 y_M_sum b_M_sum 5 (some .int) 2 := ⟨tb_mem 676 (by decide +kernel) rfl, mi_M_sum, ms_M_sum, in_M, mc_M_sum, by decide +kernel, by decide +kernel, by decide +kernel⟩
theorem k_L_56 : CW "TapeEndsLaw" 56 y_M_ofBlock b_M_ofBlock 4 (some .int) 3 := ⟨tb_mem 680 (by decide +kernel) rfl, mi_M_ofBlock, ms_M_ofBlock, in_M, mc_M_ofBlock, by decide +kernel, by decide +kernel, by decide +kernel⟩
theorem k_M_115 : CW "TapeEndsModel" 115 y_M_travelTo b_M_travelTo 4 (some .int) 3 := ⟨tb_mem 684 (by decide +kernel) rfl, mi_M_travelTo, ms_M_travelTo, in_M, mc_M_travelTo, by decide +kernel, by decide +kernel, by decide +kernel⟩
theorem k_L_60 : CW "TapeEndsLaw" 60 y_M_at b_M_at 3 (some .int) 1 := ⟨tb_mem 688 (by decide +kernel) rfl, mi_M_at, ms_M_at, in_M, mc_M_at, by decide +kernel, by decide +kernel, by decide +kernel⟩
theorem k_L_64 : CW "TapeEndsLaw" 64 y_M_count b_M_count 2 (some .int) 1 := ⟨tb_mem 692 (by decide +kernel) rfl, mi_M_count, ms_M_count, in_M, mc_M_count, by decide +kernel, by decide +kernel, by decide +kernel⟩
theorem k_L_68 : CW "TapeEndsLaw" 68 y_M_fits b_M_fits 3 (some .int) 1 := ⟨tb_mem 696 (by decide +kernel) rfl, mi_M_fits, ms_M_fits, in_M, mc_M_fits, by decide +kernel, by decide +kernel, by decide +kernel⟩
theorem k_L_72 : CW "TapeEndsLaw" 72 y_M_rooms b_M_rooms 4 (some .int) 1 := ⟨tb_mem 700 (by decide +kernel) rfl, mi_M_rooms, ms_M_rooms, in_M, mc_M_rooms, by decide +kernel, by decide +kernel, by decide +kernel⟩
theorem k_L_76 : CW "TapeEndsLaw" 76 y_M_nearest b_M_nearest 9 (some .int) 1 := ⟨tb_mem 704 (by decide +kernel) rfl, mi_M_nearest, ms_M_nearest, in_M, mc_M_nearest, by decide +kernel, by decide +kernel, by decide +kernel⟩
theorem k_L_83 : CW "TapeEndsLaw" 83 y_M_put b_M_put 8 (some .int) 1 := ⟨tb_mem 708 (by decide +kernel) rfl, mi_M_put, ms_M_put, in_M, mc_M_put, by decide +kernel, by decide +kernel, by decide +kernel⟩
theorem k_L_87 : CW "TapeEndsLaw" 87 y_M_wipe b_M_wipe 2 (some .int) 0 := ⟨tb_mem 713 (by decide +kernel) rfl, mi_M_wipe, ms_M_wipe, in_M, mc_M_wipe, by decide +kernel, by decide +kernel, by decide +kernel⟩
theorem k_L_91 : CW "TapeEndsLaw" 91 y_M_fault b_M_fault 2 (some .int) 0 := ⟨tb_mem 717 (by decide +kernel) rfl, mi_M_fault, ms_M_fault, in_M, mc_M_fault, by decide +kernel, by decide +kernel, by decide +kernel⟩
theorem k_M_158 : CW "TapeEndsModel" 158 y_M_go b_M_go 6 (some .int) 1 := ⟨tb_mem 721 (by decide +kernel) rfl, mi_M_go, ms_M_go, in_M, mc_M_go, by decide +kernel, by decide +kernel, by decide +kernel⟩
theorem k_M_151 : CW "TapeEndsModel" 151 y_M_order b_M_order 4 none 0 := ⟨tb_mem 725 (by decide +kernel) rfl, mi_M_order, ms_M_order, in_M, mc_M_order, by decide +kernel, by decide +kernel, by decide +kernel⟩
theorem k_M_130 : CW "TapeEndsModel" 130 y_M_sign b_M_sign 4 (some .int) 2 := ⟨tb_mem 729 (by decide +kernel) rfl, mi_M_sign, ms_M_sign, in_M, mc_M_sign, by decide +kernel, by decide +kernel, by decide +kernel⟩
theorem k_M_142 : CW "TapeEndsModel" 142 y_M_number b_M_number 3 (some .int) 0 := ⟨tb_mem 733 (by decide +kernel) rfl, mi_M_number, ms_M_number, in_M, mc_M_number, by decide +kernel, by decide +kernel, by decide +kernel⟩
theorem k_M_133 : CW "TapeEndsModel" 133 y_M_isNext b_M_isNext 3 (some .boolean) 2 := ⟨tb_mem 737 (by decide +kernel) rfl, mi_M_isNext, ms_M_isNext, in_M, mc_M_isNext, by decide +kernel, by decide +kernel, by decide +kernel⟩
theorem k_M_154 : CW "TapeEndsModel" 154 y_M_does b_M_does 4 (some .boolean) 0 := ⟨tb_mem 741 (by decide +kernel) rfl, mi_M_does, ms_M_does, in_M, mc_M_does, by decide +kernel, by decide +kernel, by decide +kernel⟩
theorem k_L_95 : CW "TapeEndsLaw" 95 y_M_carryOut b_M_carryOut 3 (some .int) 0 := ⟨tb_mem 745 (by decide +kernel) rfl, mi_M_carryOut, ms_M_carryOut, in_M, mc_M_carryOut, by decide +kernel, by decide +kernel, by decide +kernel⟩
theorem k_L_99 : CW "TapeEndsLaw" 99 y_M_undo b_M_undo 2 (some .int) 0 := ⟨tb_mem 749 (by decide +kernel) rfl, mi_M_undo, ms_M_undo, in_M, mc_M_undo, by decide +kernel, by decide +kernel, by decide +kernel⟩
theorem k_L_103 : CW "TapeEndsLaw" 103 y_M_save b_M_save 3 (some .int) 1 := ⟨tb_mem 753 (by decide +kernel) rfl, mi_M_save, ms_M_save, in_M, mc_M_save, by decide +kernel, by decide +kernel, by decide +kernel⟩
theorem k_L_107 : CW "TapeEndsLaw" 107 y_M_restore b_M_restore 3 (some .int) 1 := ⟨tb_mem 757 (by decide +kernel) rfl, mi_M_restore, ms_M_restore, in_M, mc_M_restore, by decide +kernel, by decide +kernel, by decide +kernel⟩
end
section
theorem d_R_init_0 : decode b_R_init 0 = .ok (.aload_n 0, 1) := by decide +kernel
theorem d_R_init_1 : decode b_R_init 1 = .ok (.invokespecial 5, 3) := by decide +kernel
theorem d_R_init_4 : decode b_R_init 4 = .ok (.aload_n 0, 1) := by decide +kernel
theorem d_R_init_5 : decode b_R_init 5 = .ok (.aload_n 1, 1) := by decide +kernel
theorem d_R_init_6 : decode b_R_init 6 = .ok (.putfield 11, 3) := by decide +kernel
theorem d_R_init_9 : decode b_R_init 9 = .ok (.aload_n 0, 1) := by decide +kernel
theorem d_R_init_10 : decode b_R_init 10 = .ok (.iconst 0, 1) := by decide +kernel
theorem d_R_init_11 : decode b_R_init 11 = .ok (.putfield 17, 3) := by decide +kernel
theorem d_R_init_14 : decode b_R_init 14 = .ok (.aload_n 0, 1) := by decide +kernel
theorem d_R_init_15 : decode b_R_init 15 = .ok (.iconst 0, 1) := by decide +kernel
theorem d_R_init_16 : decode b_R_init 16 = .ok (.putfield 21, 3) := by decide +kernel
theorem d_R_init_19 : decode b_R_init 19 = .ok (.return_, 1) := by decide +kernel
theorem d_R_startAgain_0 : decode b_R_startAgain 0 = .ok (.aload_n 0, 1) := by decide +kernel
theorem d_R_startAgain_1 : decode b_R_startAgain 1 = .ok (.iconst 0, 1) := by decide +kernel
theorem d_R_startAgain_2 : decode b_R_startAgain 2 = .ok (.putfield 17, 3) := by decide +kernel
theorem d_R_startAgain_5 : decode b_R_startAgain 5 = .ok (.aload_n 0, 1) := by decide +kernel
theorem d_R_startAgain_6 : decode b_R_startAgain 6 = .ok (.iconst 0, 1) := by decide +kernel
theorem d_R_startAgain_7 : decode b_R_startAgain 7 = .ok (.putfield 21, 3) := by decide +kernel
theorem d_R_startAgain_10 : decode b_R_startAgain 10 = .ok (.return_, 1) := by decide +kernel
theorem d_R_hasMore_0 : decode b_R_hasMore 0 = .ok (.aload_n 0, 1) := by decide +kernel
theorem d_R_hasMore_1 : decode b_R_hasMore 1 = .ok (.getfield 21, 3) := by decide +kernel
theorem d_R_hasMore_4 : decode b_R_hasMore 4 = .ok (.ifCond .ne 21, 3) := by decide +kernel
theorem d_R_hasMore_7 : decode b_R_hasMore 7 = .ok (.aload_n 0, 1) := by decide +kernel
theorem d_R_hasMore_8 : decode b_R_hasMore 8 = .ok (.getfield 17, 3) := by decide +kernel
theorem d_R_hasMore_11 : decode b_R_hasMore 11 = .ok (.aload_n 0, 1) := by decide +kernel
theorem d_R_hasMore_12 : decode b_R_hasMore 12 = .ok (.getfield 11, 3) := by decide +kernel
theorem d_R_hasMore_15 : decode b_R_hasMore 15 = .ok (.invokevirtual 25, 3) := by decide +kernel
theorem d_R_hasMore_18 : decode b_R_hasMore 18 = .ok (.if_icmp .ge 7, 3) := by decide +kernel
theorem d_R_hasMore_21 : decode b_R_hasMore 21 = .ok (.iconst 1, 1) := by decide +kernel
theorem d_R_hasMore_22 : decode b_R_hasMore 22 = .ok (.goto 4, 3) := by decide +kernel
theorem d_R_hasMore_25 : decode b_R_hasMore 25 = .ok (.iconst 0, 1) := by decide +kernel
theorem d_R_hasMore_26 : decode b_R_hasMore 26 = .ok (.ireturn, 1) := by decide +kernel
theorem d_R_faultPosition_0 : decode b_R_faultPosition 0 = .ok (.aload_n 0, 1) := by decide +kernel
theorem d_R_faultPosition_1 : decode b_R_faultPosition 1 = .ok (.invokevirtual 29, 3) := by decide +kernel
theorem d_R_faultPosition_4 : decode b_R_faultPosition 4 = .ok (.aload_n 0, 1) := by decide +kernel
theorem d_R_faultPosition_5 : decode b_R_faultPosition 5 = .ok (.invokevirtual 32, 3) := by decide +kernel
theorem d_R_faultPosition_8 : decode b_R_faultPosition 8 = .ok (.iconst 1, 1) := by decide +kernel
theorem d_R_faultPosition_9 : decode b_R_faultPosition 9 = .ok (.istore_n 1, 1) := by decide +kernel
theorem d_R_faultPosition_10 : decode b_R_faultPosition 10 = .ok (.iload_n 1, 1) := by decide +kernel
theorem d_R_faultPosition_11 : decode b_R_faultPosition 11 = .ok (.bipush 80, 2) := by decide +kernel
theorem d_R_faultPosition_13 : decode b_R_faultPosition 13 = .ok (.if_icmp .ge 20, 3) := by decide +kernel
theorem d_R_faultPosition_16 : decode b_R_faultPosition 16 = .ok (.aload_n 0, 1) := by decide +kernel
theorem d_R_faultPosition_17 : decode b_R_faultPosition 17 = .ok (.invokevirtual 35, 3) := by decide +kernel
theorem d_R_faultPosition_20 : decode b_R_faultPosition 20 = .ok (.ifCond .eq 13, 3) := by decide +kernel
theorem d_R_faultPosition_23 : decode b_R_faultPosition 23 = .ok (.aload_n 0, 1) := by decide +kernel
theorem d_R_faultPosition_24 : decode b_R_faultPosition 24 = .ok (.invokevirtual 32, 3) := by decide +kernel
theorem d_R_faultPosition_27 : decode b_R_faultPosition 27 = .ok (.iinc 1 1, 3) := by decide +kernel
theorem d_R_faultPosition_30 : decode b_R_faultPosition 30 = .ok (.goto (-20), 3) := by decide +kernel
theorem d_R_faultPosition_33 : decode b_R_faultPosition 33 = .ok (.aload_n 0, 1) := by decide +kernel
theorem d_R_faultPosition_34 : decode b_R_faultPosition 34 = .ok (.getfield 21, 3) := by decide +kernel
theorem d_R_faultPosition_37 : decode b_R_faultPosition 37 = .ok (.ifCond .eq 10, 3) := by decide +kernel
theorem d_R_faultPosition_40 : decode b_R_faultPosition 40 = .ok (.aload_n 0, 1) := by decide +kernel
theorem d_R_faultPosition_41 : decode b_R_faultPosition 41 = .ok (.getfield 17, 3) := by decide +kernel
theorem d_R_faultPosition_44 : decode b_R_faultPosition 44 = .ok (.goto 5, 3) := by decide +kernel
theorem d_R_faultPosition_47 : decode b_R_faultPosition 47 = .ok (.bipush (-6), 2) := by decide +kernel
theorem d_R_faultPosition_49 : decode b_R_faultPosition 49 = .ok (.ireturn, 1) := by decide +kernel
theorem d_R_readNext_0 : decode b_R_readNext 0 = .ok (.aload_n 0, 1) := by decide +kernel
theorem d_R_readNext_1 : decode b_R_readNext 1 = .ok (.getfield 17, 3) := by decide +kernel
theorem d_R_readNext_4 : decode b_R_readNext 4 = .ok (.ifCond .le 9, 3) := by decide +kernel
theorem d_R_readNext_7 : decode b_R_readNext 7 = .ok (.aload_n 0, 1) := by decide +kernel
theorem d_R_readNext_8 : decode b_R_readNext 8 = .ok (.bipush 59, 2) := by decide +kernel
theorem d_R_readNext_10 : decode b_R_readNext 10 = .ok (.invokevirtual 39, 3) := by decide +kernel
theorem d_R_readNext_13 : decode b_R_readNext 13 = .ok (.aload_n 0, 1) := by decide +kernel
theorem d_R_readNext_14 : decode b_R_readNext 14 = .ok (.getfield 21, 3) := by decide +kernel
theorem d_R_readNext_17 : decode b_R_readNext 17 = .ok (.ifCond .ne 7, 3) := by decide +kernel
theorem d_R_readNext_20 : decode b_R_readNext 20 = .ok (.aload_n 0, 1) := by decide +kernel
theorem d_R_readNext_21 : decode b_R_readNext 21 = .ok (.invokevirtual 43, 3) := by decide +kernel
theorem d_R_readNext_24 : decode b_R_readNext 24 = .ok (.return_, 1) := by decide +kernel
theorem d_R_carryOutOn_0 : decode b_R_carryOutOn 0 = .ok (.aload_n 0, 1) := by decide +kernel
theorem d_R_carryOutOn_1 : decode b_R_carryOutOn 1 = .ok (.getfield 46, 3) := by decide +kernel
theorem d_R_carryOutOn_4 : decode b_R_carryOutOn 4 = .ok (.lookupswitch 113 #[(99, 86), (109, 99), (114, 69), (119, 52), (120, 108)], 52) := by decide +kernel
theorem d_R_carryOutOn_56 : decode b_R_carryOutOn 56 = .ok (.aload_n 1, 1) := by decide +kernel
theorem d_R_carryOutOn_57 : decode b_R_carryOutOn 57 = .ok (.aload_n 0, 1) := by decide +kernel
theorem d_R_carryOutOn_58 : decode b_R_carryOutOn 58 = .ok (.getfield 50, 3) := by decide +kernel
theorem d_R_carryOutOn_61 : decode b_R_carryOutOn 61 = .ok (.aload_n 0, 1) := by decide +kernel
theorem d_R_carryOutOn_62 : decode b_R_carryOutOn 62 = .ok (.getfield 53, 3) := by decide +kernel
theorem d_R_carryOutOn_65 : decode b_R_carryOutOn 65 = .ok (.aload_n 0, 1) := by decide +kernel
theorem d_R_carryOutOn_66 : decode b_R_carryOutOn 66 = .ok (.getfield 56, 3) := by decide +kernel
theorem d_R_carryOutOn_69 : decode b_R_carryOutOn 69 = .ok (.invokevirtual 59, 3) := by decide +kernel
theorem d_R_carryOutOn_72 : decode b_R_carryOutOn 72 = .ok (.ireturn, 1) := by decide +kernel
theorem d_R_carryOutOn_73 : decode b_R_carryOutOn 73 = .ok (.aload_n 1, 1) := by decide +kernel
theorem d_R_carryOutOn_74 : decode b_R_carryOutOn 74 = .ok (.aload_n 0, 1) := by decide +kernel
theorem d_R_carryOutOn_75 : decode b_R_carryOutOn 75 = .ok (.getfield 50, 3) := by decide +kernel
theorem d_R_carryOutOn_78 : decode b_R_carryOutOn 78 = .ok (.aload_n 0, 1) := by decide +kernel
theorem d_R_carryOutOn_79 : decode b_R_carryOutOn 79 = .ok (.getfield 53, 3) := by decide +kernel
theorem d_R_carryOutOn_82 : decode b_R_carryOutOn 82 = .ok (.aload_n 0, 1) := by decide +kernel
theorem d_R_carryOutOn_83 : decode b_R_carryOutOn 83 = .ok (.getfield 65, 3) := by decide +kernel
theorem d_R_carryOutOn_86 : decode b_R_carryOutOn 86 = .ok (.invokevirtual 68, 3) := by decide +kernel
theorem d_R_carryOutOn_89 : decode b_R_carryOutOn 89 = .ok (.ireturn, 1) := by decide +kernel
theorem d_R_carryOutOn_90 : decode b_R_carryOutOn 90 = .ok (.aload_n 1, 1) := by decide +kernel
theorem d_R_carryOutOn_91 : decode b_R_carryOutOn 91 = .ok (.aload_n 0, 1) := by decide +kernel
theorem d_R_carryOutOn_92 : decode b_R_carryOutOn 92 = .ok (.getfield 50, 3) := by decide +kernel
theorem d_R_carryOutOn_95 : decode b_R_carryOutOn 95 = .ok (.aload_n 0, 1) := by decide +kernel
theorem d_R_carryOutOn_96 : decode b_R_carryOutOn 96 = .ok (.getfield 53, 3) := by decide +kernel
theorem d_R_carryOutOn_99 : decode b_R_carryOutOn 99 = .ok (.invokevirtual 71, 3) := by decide +kernel
theorem d_R_carryOutOn_102 : decode b_R_carryOutOn 102 = .ok (.ireturn, 1) := by decide +kernel
theorem d_R_carryOutOn_103 : decode b_R_carryOutOn 103 = .ok (.aload_n 1, 1) := by decide +kernel
theorem d_R_carryOutOn_104 : decode b_R_carryOutOn 104 = .ok (.aload_n 0, 1) := by decide +kernel
theorem d_R_carryOutOn_105 : decode b_R_carryOutOn 105 = .ok (.getfield 53, 3) := by decide +kernel
theorem d_R_carryOutOn_108 : decode b_R_carryOutOn 108 = .ok (.invokevirtual 75, 3) := by decide +kernel
theorem d_R_carryOutOn_111 : decode b_R_carryOutOn 111 = .ok (.ireturn, 1) := by decide +kernel
theorem d_R_carryOutOn_112 : decode b_R_carryOutOn 112 = .ok (.aload_n 1, 1) := by decide +kernel
theorem d_R_carryOutOn_113 : decode b_R_carryOutOn 113 = .ok (.invokevirtual 79, 3) := by decide +kernel
theorem d_R_carryOutOn_116 : decode b_R_carryOutOn 116 = .ok (.ireturn, 1) := by decide +kernel
theorem d_R_carryOutOn_117 : decode b_R_carryOutOn 117 = .ok (.bipush (-3), 2) := by decide +kernel
theorem d_R_carryOutOn_119 : decode b_R_carryOutOn 119 = .ok (.ireturn, 1) := by decide +kernel
theorem d_R_readOrder_0 : decode b_R_readOrder 0 = .ok (.aload_n 0, 1) := by decide +kernel
theorem d_R_readOrder_1 : decode b_R_readOrder 1 = .ok (.aload_n 0, 1) := by decide +kernel
theorem d_R_readOrder_2 : decode b_R_readOrder 2 = .ok (.getfield 11, 3) := by decide +kernel
theorem d_R_readOrder_5 : decode b_R_readOrder 5 = .ok (.aload_n 0, 1) := by decide +kernel
theorem d_R_readOrder_6 : decode b_R_readOrder 6 = .ok (.getfield 17, 3) := by decide +kernel
theorem d_R_readOrder_9 : decode b_R_readOrder 9 = .ok (.invokevirtual 82, 3) := by decide +kernel
theorem d_R_readOrder_12 : decode b_R_readOrder 12 = .ok (.putfield 46, 3) := by decide +kernel
theorem d_R_readOrder_15 : decode b_R_readOrder 15 = .ok (.aload_n 0, 1) := by decide +kernel
theorem d_R_readOrder_16 : decode b_R_readOrder 16 = .ok (.getfield 46, 3) := by decide +kernel
theorem d_R_readOrder_19 : decode b_R_readOrder 19 = .ok (.lookupswitch 196 #[(99, 135), (109, 162), (114, 90), (119, 49), (120, 183)], 49) := by decide +kernel
theorem d_R_readOrder_68 : decode b_R_readOrder 68 = .ok (.aload_n 0, 1) := by decide +kernel
theorem d_R_readOrder_69 : decode b_R_readOrder 69 = .ok (.dup, 1) := by decide +kernel
theorem d_R_readOrder_70 : decode b_R_readOrder 70 = .ok (.getfield 17, 3) := by decide +kernel
theorem d_R_readOrder_73 : decode b_R_readOrder 73 = .ok (.iconst 1, 1) := by decide +kernel
theorem d_R_readOrder_74 : decode b_R_readOrder 74 = .ok (.iadd, 1) := by decide +kernel
theorem d_R_readOrder_75 : decode b_R_readOrder 75 = .ok (.putfield 17, 3) := by decide +kernel
theorem d_R_readOrder_78 : decode b_R_readOrder 78 = .ok (.aload_n 0, 1) := by decide +kernel
theorem d_R_readOrder_79 : decode b_R_readOrder 79 = .ok (.bipush 58, 2) := by decide +kernel
theorem d_R_readOrder_81 : decode b_R_readOrder 81 = .ok (.invokevirtual 86, 3) := by decide +kernel
theorem d_R_readOrder_84 : decode b_R_readOrder 84 = .ok (.aload_n 0, 1) := by decide +kernel
theorem d_R_readOrder_85 : decode b_R_readOrder 85 = .ok (.aload_n 0, 1) := by decide +kernel
theorem d_R_readOrder_86 : decode b_R_readOrder 86 = .ok (.invokevirtual 89, 3) := by decide +kernel
theorem d_R_readOrder_89 : decode b_R_readOrder 89 = .ok (.putfield 53, 3) := by decide +kernel
theorem d_R_readOrder_92 : decode b_R_readOrder 92 = .ok (.aload_n 0, 1) := by decide +kernel
theorem d_R_readOrder_93 : decode b_R_readOrder 93 = .ok (.bipush 35, 2) := by decide +kernel
theorem d_R_readOrder_95 : decode b_R_readOrder 95 = .ok (.invokevirtual 39, 3) := by decide +kernel
theorem d_R_readOrder_98 : decode b_R_readOrder 98 = .ok (.aload_n 0, 1) := by decide +kernel
theorem d_R_readOrder_99 : decode b_R_readOrder 99 = .ok (.aload_n 0, 1) := by decide +kernel
theorem d_R_readOrder_100 : decode b_R_readOrder 100 = .ok (.invokevirtual 89, 3) := by decide +kernel
theorem d_R_readOrder_103 : decode b_R_readOrder 103 = .ok (.putfield 56, 3) := by decide +kernel
theorem d_R_readOrder_106 : decode b_R_readOrder 106 = .ok (.goto 114, 3) := by decide +kernel
theorem d_R_readOrder_109 : decode b_R_readOrder 109 = .ok (.aload_n 0, 1) := by decide +kernel
theorem d_R_readOrder_110 : decode b_R_readOrder 110 = .ok (.dup, 1) := by decide +kernel
theorem d_R_readOrder_111 : decode b_R_readOrder 111 = .ok (.getfield 17, 3) := by decide +kernel
theorem d_R_readOrder_114 : decode b_R_readOrder 114 = .ok (.iconst 1, 1) := by decide +kernel
theorem d_R_readOrder_115 : decode b_R_readOrder 115 = .ok (.iadd, 1) := by decide +kernel
theorem d_R_readOrder_116 : decode b_R_readOrder 116 = .ok (.putfield 17, 3) := by decide +kernel
theorem d_R_readOrder_119 : decode b_R_readOrder 119 = .ok (.aload_n 0, 1) := by decide +kernel
theorem d_R_readOrder_120 : decode b_R_readOrder 120 = .ok (.bipush 46, 2) := by decide +kernel
theorem d_R_readOrder_122 : decode b_R_readOrder 122 = .ok (.invokevirtual 86, 3) := by decide +kernel
theorem d_R_readOrder_125 : decode b_R_readOrder 125 = .ok (.aload_n 0, 1) := by decide +kernel
theorem d_R_readOrder_126 : decode b_R_readOrder 126 = .ok (.aload_n 0, 1) := by decide +kernel
theorem d_R_readOrder_127 : decode b_R_readOrder 127 = .ok (.invokevirtual 89, 3) := by decide +kernel
theorem d_R_readOrder_130 : decode b_R_readOrder 130 = .ok (.putfield 53, 3) := by decide +kernel
theorem d_R_readOrder_133 : decode b_R_readOrder 133 = .ok (.aload_n 0, 1) := by decide +kernel
theorem d_R_readOrder_134 : decode b_R_readOrder 134 = .ok (.aload_n 0, 1) := by decide +kernel
theorem d_R_readOrder_135 : decode b_R_readOrder 135 = .ok (.bipush 45, 2) := by decide +kernel
theorem d_R_readOrder_137 : decode b_R_readOrder 137 = .ok (.invokevirtual 92, 3) := by decide +kernel
theorem d_R_readOrder_140 : decode b_R_readOrder 140 = .ok (.ifCond .eq 7, 3) := by decide +kernel
theorem d_R_readOrder_143 : decode b_R_readOrder 143 = .ok (.iconst 1, 1) := by decide +kernel
theorem d_R_readOrder_144 : decode b_R_readOrder 144 = .ok (.goto 4, 3) := by decide +kernel
theorem d_R_readOrder_147 : decode b_R_readOrder 147 = .ok (.iconst 0, 1) := by decide +kernel
theorem d_R_readOrder_148 : decode b_R_readOrder 148 = .ok (.putfield 65, 3) := by decide +kernel
theorem d_R_readOrder_151 : decode b_R_readOrder 151 = .ok (.goto 69, 3) := by decide +kernel
theorem d_R_readOrder_154 : decode b_R_readOrder 154 = .ok (.aload_n 0, 1) := by decide +kernel
theorem d_R_readOrder_155 : decode b_R_readOrder 155 = .ok (.dup, 1) := by decide +kernel
theorem d_R_readOrder_156 : decode b_R_readOrder 156 = .ok (.getfield 17, 3) := by decide +kernel
theorem d_R_readOrder_159 : decode b_R_readOrder 159 = .ok (.iconst 1, 1) := by decide +kernel
theorem d_R_readOrder_160 : decode b_R_readOrder 160 = .ok (.iadd, 1) := by decide +kernel
theorem d_R_readOrder_161 : decode b_R_readOrder 161 = .ok (.putfield 17, 3) := by decide +kernel
theorem d_R_readOrder_164 : decode b_R_readOrder 164 = .ok (.aload_n 0, 1) := by decide +kernel
theorem d_R_readOrder_165 : decode b_R_readOrder 165 = .ok (.bipush 46, 2) := by decide +kernel
theorem d_R_readOrder_167 : decode b_R_readOrder 167 = .ok (.invokevirtual 86, 3) := by decide +kernel
theorem d_R_readOrder_170 : decode b_R_readOrder 170 = .ok (.aload_n 0, 1) := by decide +kernel
theorem d_R_readOrder_171 : decode b_R_readOrder 171 = .ok (.aload_n 0, 1) := by decide +kernel
theorem d_R_readOrder_172 : decode b_R_readOrder 172 = .ok (.invokevirtual 89, 3) := by decide +kernel
theorem d_R_readOrder_175 : decode b_R_readOrder 175 = .ok (.putfield 53, 3) := by decide +kernel
theorem d_R_readOrder_178 : decode b_R_readOrder 178 = .ok (.goto 42, 3) := by decide +kernel
theorem d_R_readOrder_181 : decode b_R_readOrder 181 = .ok (.aload_n 0, 1) := by decide +kernel
theorem d_R_readOrder_182 : decode b_R_readOrder 182 = .ok (.dup, 1) := by decide +kernel
theorem d_R_readOrder_183 : decode b_R_readOrder 183 = .ok (.getfield 17, 3) := by decide +kernel
theorem d_R_readOrder_186 : decode b_R_readOrder 186 = .ok (.iconst 1, 1) := by decide +kernel
theorem d_R_readOrder_187 : decode b_R_readOrder 187 = .ok (.iadd, 1) := by decide +kernel
theorem d_R_readOrder_188 : decode b_R_readOrder 188 = .ok (.putfield 17, 3) := by decide +kernel
theorem d_R_readOrder_191 : decode b_R_readOrder 191 = .ok (.aload_n 0, 1) := by decide +kernel
theorem d_R_readOrder_192 : decode b_R_readOrder 192 = .ok (.aload_n 0, 1) := by decide +kernel
theorem d_R_readOrder_193 : decode b_R_readOrder 193 = .ok (.invokevirtual 89, 3) := by decide +kernel
theorem d_R_readOrder_196 : decode b_R_readOrder 196 = .ok (.putfield 53, 3) := by decide +kernel
theorem d_R_readOrder_199 : decode b_R_readOrder 199 = .ok (.goto 21, 3) := by decide +kernel
theorem d_R_readOrder_202 : decode b_R_readOrder 202 = .ok (.aload_n 0, 1) := by decide +kernel
theorem d_R_readOrder_203 : decode b_R_readOrder 203 = .ok (.dup, 1) := by decide +kernel
theorem d_R_readOrder_204 : decode b_R_readOrder 204 = .ok (.getfield 17, 3) := by decide +kernel
theorem d_R_readOrder_207 : decode b_R_readOrder 207 = .ok (.iconst 1, 1) := by decide +kernel
theorem d_R_readOrder_208 : decode b_R_readOrder 208 = .ok (.iadd, 1) := by decide +kernel
theorem d_R_readOrder_209 : decode b_R_readOrder 209 = .ok (.putfield 17, 3) := by decide +kernel
theorem d_R_readOrder_212 : decode b_R_readOrder 212 = .ok (.goto 8, 3) := by decide +kernel
theorem d_R_readOrder_215 : decode b_R_readOrder 215 = .ok (.aload_n 0, 1) := by decide +kernel
theorem d_R_readOrder_216 : decode b_R_readOrder 216 = .ok (.iconst 1, 1) := by decide +kernel
theorem d_R_readOrder_217 : decode b_R_readOrder 217 = .ok (.putfield 21, 3) := by decide +kernel
theorem d_R_readOrder_220 : decode b_R_readOrder 220 = .ok (.return_, 1) := by decide +kernel
theorem d_R_readFile_0 : decode b_R_readFile 0 = .ok (.aload_n 0, 1) := by decide +kernel
theorem d_R_readFile_1 : decode b_R_readFile 1 = .ok (.bipush 49, 2) := by decide +kernel
theorem d_R_readFile_3 : decode b_R_readFile 3 = .ok (.invokevirtual 92, 3) := by decide +kernel
theorem d_R_readFile_6 : decode b_R_readFile 6 = .ok (.ifCond .eq 11, 3) := by decide +kernel
theorem d_R_readFile_9 : decode b_R_readFile 9 = .ok (.aload_n 0, 1) := by decide +kernel
theorem d_R_readFile_10 : decode b_R_readFile 10 = .ok (.iconst 1, 1) := by decide +kernel
theorem d_R_readFile_11 : decode b_R_readFile 11 = .ok (.putfield 50, 3) := by decide +kernel
theorem d_R_readFile_14 : decode b_R_readFile 14 = .ok (.goto 14, 3) := by decide +kernel
theorem d_R_readFile_17 : decode b_R_readFile 17 = .ok (.aload_n 0, 1) := by decide +kernel
theorem d_R_readFile_18 : decode b_R_readFile 18 = .ok (.bipush 48, 2) := by decide +kernel
theorem d_R_readFile_20 : decode b_R_readFile 20 = .ok (.invokevirtual 39, 3) := by decide +kernel
theorem d_R_readFile_23 : decode b_R_readFile 23 = .ok (.aload_n 0, 1) := by decide +kernel
theorem d_R_readFile_24 : decode b_R_readFile 24 = .ok (.iconst 0, 1) := by decide +kernel
theorem d_R_readFile_25 : decode b_R_readFile 25 = .ok (.putfield 50, 3) := by decide +kernel
theorem d_R_readFile_28 : decode b_R_readFile 28 = .ok (.aload_n 0, 1) := by decide +kernel
theorem d_R_readFile_29 : decode b_R_readFile 29 = .ok (.iload_n 1, 1) := by decide +kernel
theorem d_R_readFile_30 : decode b_R_readFile 30 = .ok (.invokevirtual 39, 3) := by decide +kernel
theorem d_R_readFile_33 : decode b_R_readFile 33 = .ok (.return_, 1) := by decide +kernel
theorem d_R_readNumber_0 : decode b_R_readNumber 0 = .ok (.aload_n 0, 1) := by decide +kernel
theorem d_R_readNumber_1 : decode b_R_readNumber 1 = .ok (.invokevirtual 96, 3) := by decide +kernel
theorem d_R_readNumber_4 : decode b_R_readNumber 4 = .ok (.ifCond .ne 8, 3) := by decide +kernel
theorem d_R_readNumber_7 : decode b_R_readNumber 7 = .ok (.aload_n 0, 1) := by decide +kernel
theorem d_R_readNumber_8 : decode b_R_readNumber 8 = .ok (.iconst 1, 1) := by decide +kernel
theorem d_R_readNumber_9 : decode b_R_readNumber 9 = .ok (.putfield 21, 3) := by decide +kernel
theorem d_R_readNumber_12 : decode b_R_readNumber 12 = .ok (.aload_n 0, 1) := by decide +kernel
theorem d_R_readNumber_13 : decode b_R_readNumber 13 = .ok (.bipush 48, 2) := by decide +kernel
theorem d_R_readNumber_15 : decode b_R_readNumber 15 = .ok (.invokevirtual 92, 3) := by decide +kernel
theorem d_R_readNumber_18 : decode b_R_readNumber 18 = .ok (.ifCond .eq 5, 3) := by decide +kernel
theorem d_R_readNumber_21 : decode b_R_readNumber 21 = .ok (.iconst 0, 1) := by decide +kernel
theorem d_R_readNumber_22 : decode b_R_readNumber 22 = .ok (.ireturn, 1) := by decide +kernel
theorem d_R_readNumber_23 : decode b_R_readNumber 23 = .ok (.iconst 0, 1) := by decide +kernel
theorem d_R_readNumber_24 : decode b_R_readNumber 24 = .ok (.istore_n 1, 1) := by decide +kernel
theorem d_R_readNumber_25 : decode b_R_readNumber 25 = .ok (.iconst 0, 1) := by decide +kernel
theorem d_R_readNumber_26 : decode b_R_readNumber 26 = .ok (.istore_n 2, 1) := by decide +kernel
theorem d_R_readNumber_27 : decode b_R_readNumber 27 = .ok (.iload_n 2, 1) := by decide +kernel
theorem d_R_readNumber_28 : decode b_R_readNumber 28 = .ok (.iconst 4, 1) := by decide +kernel
theorem d_R_readNumber_29 : decode b_R_readNumber 29 = .ok (.if_icmp .ge 46, 3) := by decide +kernel
theorem d_R_readNumber_32 : decode b_R_readNumber 32 = .ok (.aload_n 0, 1) := by decide +kernel
theorem d_R_readNumber_33 : decode b_R_readNumber 33 = .ok (.invokevirtual 96, 3) := by decide +kernel
theorem d_R_readNumber_36 : decode b_R_readNumber 36 = .ok (.ifCond .eq 39, 3) := by decide +kernel
theorem d_R_readNumber_39 : decode b_R_readNumber 39 = .ok (.bipush 10, 2) := by decide +kernel
theorem d_R_readNumber_41 : decode b_R_readNumber 41 = .ok (.iload_n 1, 1) := by decide +kernel
theorem d_R_readNumber_42 : decode b_R_readNumber 42 = .ok (.imul, 1) := by decide +kernel
theorem d_R_readNumber_43 : decode b_R_readNumber 43 = .ok (.aload_n 0, 1) := by decide +kernel
theorem d_R_readNumber_44 : decode b_R_readNumber 44 = .ok (.getfield 11, 3) := by decide +kernel
theorem d_R_readNumber_47 : decode b_R_readNumber 47 = .ok (.aload_n 0, 1) := by decide +kernel
theorem d_R_readNumber_48 : decode b_R_readNumber 48 = .ok (.getfield 17, 3) := by decide +kernel
theorem d_R_readNumber_51 : decode b_R_readNumber 51 = .ok (.invokevirtual 82, 3) := by decide +kernel
theorem d_R_readNumber_54 : decode b_R_readNumber 54 = .ok (.bipush 48, 2) := by decide +kernel
theorem d_R_readNumber_56 : decode b_R_readNumber 56 = .ok (.isub, 1) := by decide +kernel
theorem d_R_readNumber_57 : decode b_R_readNumber 57 = .ok (.iadd, 1) := by decide +kernel
theorem d_R_readNumber_58 : decode b_R_readNumber 58 = .ok (.istore_n 1, 1) := by decide +kernel
theorem d_R_readNumber_59 : decode b_R_readNumber 59 = .ok (.aload_n 0, 1) := by decide +kernel
theorem d_R_readNumber_60 : decode b_R_readNumber 60 = .ok (.dup, 1) := by decide +kernel
theorem d_R_readNumber_61 : decode b_R_readNumber 61 = .ok (.getfield 17, 3) := by decide +kernel
theorem d_R_readNumber_64 : decode b_R_readNumber 64 = .ok (.iconst 1, 1) := by decide +kernel
theorem d_R_readNumber_65 : decode b_R_readNumber 65 = .ok (.iadd, 1) := by decide +kernel
theorem d_R_readNumber_66 : decode b_R_readNumber 66 = .ok (.putfield 17, 3) := by decide +kernel
theorem d_R_readNumber_69 : decode b_R_readNumber 69 = .ok (.iinc 2 1, 3) := by decide +kernel
theorem d_R_readNumber_72 : decode b_R_readNumber 72 = .ok (.goto (-45), 3) := by decide +kernel
theorem d_R_readNumber_75 : decode b_R_readNumber 75 = .ok (.iload_n 1, 1) := by decide +kernel
theorem d_R_readNumber_76 : decode b_R_readNumber 76 = .ok (.ireturn, 1) := by decide +kernel
theorem d_R_isDigitNext_0 : decode b_R_isDigitNext 0 = .ok (.aload_n 0, 1) := by decide +kernel
theorem d_R_isDigitNext_1 : decode b_R_isDigitNext 1 = .ok (.getfield 11, 3) := by decide +kernel
theorem d_R_isDigitNext_4 : decode b_R_isDigitNext 4 = .ok (.aload_n 0, 1) := by decide +kernel
theorem d_R_isDigitNext_5 : decode b_R_isDigitNext 5 = .ok (.getfield 17, 3) := by decide +kernel
theorem d_R_isDigitNext_8 : decode b_R_isDigitNext 8 = .ok (.invokevirtual 82, 3) := by decide +kernel
theorem d_R_isDigitNext_11 : decode b_R_isDigitNext 11 = .ok (.istore_n 1, 1) := by decide +kernel
theorem d_R_isDigitNext_12 : decode b_R_isDigitNext 12 = .ok (.aload_n 0, 1) := by decide +kernel
theorem d_R_isDigitNext_13 : decode b_R_isDigitNext 13 = .ok (.getfield 21, 3) := by decide +kernel
theorem d_R_isDigitNext_16 : decode b_R_isDigitNext 16 = .ok (.ifCond .ne 19, 3) := by decide +kernel
theorem d_R_isDigitNext_19 : decode b_R_isDigitNext 19 = .ok (.iload_n 1, 1) := by decide +kernel
theorem d_R_isDigitNext_20 : decode b_R_isDigitNext 20 = .ok (.bipush 48, 2) := by decide +kernel
theorem d_R_isDigitNext_22 : decode b_R_isDigitNext 22 = .ok (.if_icmp .lt 13, 3) := by decide +kernel
theorem d_R_isDigitNext_25 : decode b_R_isDigitNext 25 = .ok (.iload_n 1, 1) := by decide +kernel
theorem d_R_isDigitNext_26 : decode b_R_isDigitNext 26 = .ok (.bipush 57, 2) := by decide +kernel
theorem d_R_isDigitNext_28 : decode b_R_isDigitNext 28 = .ok (.if_icmp .gt 7, 3) := by decide +kernel
theorem d_R_isDigitNext_31 : decode b_R_isDigitNext 31 = .ok (.iconst 1, 1) := by decide +kernel
theorem d_R_isDigitNext_32 : decode b_R_isDigitNext 32 = .ok (.goto 4, 3) := by decide +kernel
theorem d_R_isDigitNext_35 : decode b_R_isDigitNext 35 = .ok (.iconst 0, 1) := by decide +kernel
theorem d_R_isDigitNext_36 : decode b_R_isDigitNext 36 = .ok (.ireturn, 1) := by decide +kernel
theorem d_R_passIfThere_0 : decode b_R_passIfThere 0 = .ok (.aload_n 0, 1) := by decide +kernel
theorem d_R_passIfThere_1 : decode b_R_passIfThere 1 = .ok (.getfield 21, 3) := by decide +kernel
theorem d_R_passIfThere_4 : decode b_R_passIfThere 4 = .ok (.ifCond .ne 18, 3) := by decide +kernel
theorem d_R_passIfThere_7 : decode b_R_passIfThere 7 = .ok (.aload_n 0, 1) := by decide +kernel
theorem d_R_passIfThere_8 : decode b_R_passIfThere 8 = .ok (.getfield 11, 3) := by decide +kernel
theorem d_R_passIfThere_11 : decode b_R_passIfThere 11 = .ok (.aload_n 0, 1) := by decide +kernel
theorem d_R_passIfThere_12 : decode b_R_passIfThere 12 = .ok (.getfield 17, 3) := by decide +kernel
theorem d_R_passIfThere_15 : decode b_R_passIfThere 15 = .ok (.invokevirtual 82, 3) := by decide +kernel
theorem d_R_passIfThere_18 : decode b_R_passIfThere 18 = .ok (.iload_n 1, 1) := by decide +kernel
theorem d_R_passIfThere_19 : decode b_R_passIfThere 19 = .ok (.if_icmp .eq 5, 3) := by decide +kernel
theorem d_R_passIfThere_22 : decode b_R_passIfThere 22 = .ok (.iconst 0, 1) := by decide +kernel
theorem d_R_passIfThere_23 : decode b_R_passIfThere 23 = .ok (.ireturn, 1) := by decide +kernel
theorem d_R_passIfThere_24 : decode b_R_passIfThere 24 = .ok (.aload_n 0, 1) := by decide +kernel
theorem d_R_passIfThere_25 : decode b_R_passIfThere 25 = .ok (.dup, 1) := by decide +kernel
theorem d_R_passIfThere_26 : decode b_R_passIfThere 26 = .ok (.getfield 17, 3) := by decide +kernel
theorem d_R_passIfThere_29 : decode b_R_passIfThere 29 = .ok (.iconst 1, 1) := by decide +kernel
theorem d_R_passIfThere_30 : decode b_R_passIfThere 30 = .ok (.iadd, 1) := by decide +kernel
theorem d_R_passIfThere_31 : decode b_R_passIfThere 31 = .ok (.putfield 17, 3) := by decide +kernel
theorem d_R_passIfThere_34 : decode b_R_passIfThere 34 = .ok (.iconst 1, 1) := by decide +kernel
theorem d_R_passIfThere_35 : decode b_R_passIfThere 35 = .ok (.ireturn, 1) := by decide +kernel
theorem d_R_pass_0 : decode b_R_pass 0 = .ok (.aload_n 0, 1) := by decide +kernel
theorem d_R_pass_1 : decode b_R_pass 1 = .ok (.iload_n 1, 1) := by decide +kernel
theorem d_R_pass_2 : decode b_R_pass 2 = .ok (.invokevirtual 92, 3) := by decide +kernel
theorem d_R_pass_5 : decode b_R_pass 5 = .ok (.ifCond .ne 8, 3) := by decide +kernel
theorem d_R_pass_8 : decode b_R_pass 8 = .ok (.aload_n 0, 1) := by decide +kernel
theorem d_R_pass_9 : decode b_R_pass 9 = .ok (.iconst 1, 1) := by decide +kernel
theorem d_R_pass_10 : decode b_R_pass 10 = .ok (.putfield 21, 3) := by decide +kernel
theorem d_R_pass_13 : decode b_R_pass 13 = .ok (.return_, 1) := by decide +kernel
theorem d_P_init_0 : decode b_P_init 0 = .ok (.aload_n 0, 1) := by decide +kernel
theorem d_P_init_1 : decode b_P_init 1 = .ok (.invokespecial 3, 3) := by decide +kernel
theorem d_P_init_4 : decode b_P_init 4 = .ok (.aload_n 0, 1) := by decide +kernel
theorem d_P_init_5 : decode b_P_init 5 = .ok (.bipush 80, 2) := by decide +kernel
theorem d_P_init_7 : decode b_P_init 7 = .ok (.newarray .char, 2) := by decide +kernel
theorem d_P_init_9 : decode b_P_init 9 = .ok (.putfield 11, 3) := by decide +kernel
theorem d_P_init_12 : decode b_P_init 12 = .ok (.aload_n 0, 1) := by decide +kernel
theorem d_P_init_13 : decode b_P_init 13 = .ok (.iconst 0, 1) := by decide +kernel
theorem d_P_init_14 : decode b_P_init 14 = .ok (.putfield 15, 3) := by decide +kernel
theorem d_P_init_17 : decode b_P_init 17 = .ok (.return_, 1) := by decide +kernel
theorem d_P_size_0 : decode b_P_size 0 = .ok (.aload_n 0, 1) := by decide +kernel
theorem d_P_size_1 : decode b_P_size 1 = .ok (.getfield 15, 3) := by decide +kernel
theorem d_P_size_4 : decode b_P_size 4 = .ok (.ireturn, 1) := by decide +kernel
theorem d_P_characterAt_0 : decode b_P_characterAt 0 = .ok (.iload_n 1, 1) := by decide +kernel
theorem d_P_characterAt_1 : decode b_P_characterAt 1 = .ok (.ifCond .lt 20, 3) := by decide +kernel
theorem d_P_characterAt_4 : decode b_P_characterAt 4 = .ok (.iload_n 1, 1) := by decide +kernel
theorem d_P_characterAt_5 : decode b_P_characterAt 5 = .ok (.aload_n 0, 1) := by decide +kernel
theorem d_P_characterAt_6 : decode b_P_characterAt 6 = .ok (.getfield 15, 3) := by decide +kernel
theorem d_P_characterAt_9 : decode b_P_characterAt 9 = .ok (.if_icmp .ge 12, 3) := by decide +kernel
theorem d_P_characterAt_12 : decode b_P_characterAt 12 = .ok (.aload_n 0, 1) := by decide +kernel
theorem d_P_characterAt_13 : decode b_P_characterAt 13 = .ok (.getfield 11, 3) := by decide +kernel
theorem d_P_characterAt_16 : decode b_P_characterAt 16 = .ok (.iload_n 1, 1) := by decide +kernel
theorem d_P_characterAt_17 : decode b_P_characterAt 17 = .ok (.caload, 1) := by decide +kernel
theorem d_P_characterAt_18 : decode b_P_characterAt 18 = .ok (.goto 4, 3) := by decide +kernel
theorem d_P_characterAt_21 : decode b_P_characterAt 21 = .ok (.iconst 0, 1) := by decide +kernel
theorem d_P_characterAt_22 : decode b_P_characterAt 22 = .ok (.ireturn, 1) := by decide +kernel
theorem d_P_append_0 : decode b_P_append 0 = .ok (.aload_n 0, 1) := by decide +kernel
theorem d_P_append_1 : decode b_P_append 1 = .ok (.lload_n 1, 1) := by decide +kernel
theorem d_P_append_2 : decode b_P_append 2 = .ok (.invokevirtual 19, 3) := by decide +kernel
theorem d_P_append_5 : decode b_P_append 5 = .ok (.istore_n 3, 1) := by decide +kernel
theorem d_P_append_6 : decode b_P_append 6 = .ok (.iload_n 3, 1) := by decide +kernel
theorem d_P_append_7 : decode b_P_append 7 = .ok (.iconst 1, 1) := by decide +kernel
theorem d_P_append_8 : decode b_P_append 8 = .ok (.if_icmp .ge 6, 3) := by decide +kernel
theorem d_P_append_11 : decode b_P_append 11 = .ok (.bipush (-2), 2) := by decide +kernel
theorem d_P_append_13 : decode b_P_append 13 = .ok (.ireturn, 1) := by decide +kernel
theorem d_P_append_14 : decode b_P_append 14 = .ok (.aload_n 0, 1) := by decide +kernel
theorem d_P_append_15 : decode b_P_append 15 = .ok (.getfield 15, 3) := by decide +kernel
theorem d_P_append_18 : decode b_P_append 18 = .ok (.iload_n 3, 1) := by decide +kernel
theorem d_P_append_19 : decode b_P_append 19 = .ok (.iadd, 1) := by decide +kernel
theorem d_P_append_20 : decode b_P_append 20 = .ok (.bipush 80, 2) := by decide +kernel
theorem d_P_append_22 : decode b_P_append 22 = .ok (.if_icmp .le 6, 3) := by decide +kernel
theorem d_P_append_25 : decode b_P_append 25 = .ok (.bipush (-4), 2) := by decide +kernel
theorem d_P_append_27 : decode b_P_append 27 = .ok (.ireturn, 1) := by decide +kernel
theorem d_P_append_28 : decode b_P_append 28 = .ok (.iload_n 3, 1) := by decide +kernel
theorem d_P_append_29 : decode b_P_append 29 = .ok (.iconst 1, 1) := by decide +kernel
theorem d_P_append_30 : decode b_P_append 30 = .ok (.isub, 1) := by decide +kernel
theorem d_P_append_31 : decode b_P_append 31 = .ok (.istore 4, 2) := by decide +kernel
theorem d_P_append_33 : decode b_P_append 33 = .ok (.iload 4, 2) := by decide +kernel
theorem d_P_append_35 : decode b_P_append 35 = .ok (.ifCond .lt 41, 3) := by decide +kernel
theorem d_P_append_38 : decode b_P_append 38 = .ok (.aload_n 0, 1) := by decide +kernel
theorem d_P_append_39 : decode b_P_append 39 = .ok (.getfield 11, 3) := by decide +kernel
theorem d_P_append_42 : decode b_P_append 42 = .ok (.aload_n 0, 1) := by decide +kernel
theorem d_P_append_43 : decode b_P_append 43 = .ok (.getfield 15, 3) := by decide +kernel
theorem d_P_append_46 : decode b_P_append 46 = .ok (.lload_n 1, 1) := by decide +kernel
theorem d_P_append_47 : decode b_P_append 47 = .ok (.bipush 8, 2) := by decide +kernel
theorem d_P_append_49 : decode b_P_append 49 = .ok (.iload 4, 2) := by decide +kernel
theorem d_P_append_51 : decode b_P_append 51 = .ok (.imul, 1) := by decide +kernel
theorem d_P_append_52 : decode b_P_append 52 = .ok (.lushr, 1) := by decide +kernel
theorem d_P_append_53 : decode b_P_append 53 = .ok (.ldc2_w 23, 3) := by decide +kernel
theorem d_P_append_56 : decode b_P_append 56 = .ok (.land, 1) := by decide +kernel
theorem d_P_append_57 : decode b_P_append 57 = .ok (.l2i, 1) := by decide +kernel
theorem d_P_append_58 : decode b_P_append 58 = .ok (.i2c, 1) := by decide +kernel
theorem d_P_append_59 : decode b_P_append 59 = .ok (.castore, 1) := by decide +kernel
theorem d_P_append_60 : decode b_P_append 60 = .ok (.aload_n 0, 1) := by decide +kernel
theorem d_P_append_61 : decode b_P_append 61 = .ok (.dup, 1) := by decide +kernel
theorem d_P_append_62 : decode b_P_append 62 = .ok (.getfield 15, 3) := by decide +kernel
theorem d_P_append_65 : decode b_P_append 65 = .ok (.iconst 1, 1) := by decide +kernel
theorem d_P_append_66 : decode b_P_append 66 = .ok (.iadd, 1) := by decide +kernel
theorem d_P_append_67 : decode b_P_append 67 = .ok (.putfield 15, 3) := by decide +kernel
theorem d_P_append_70 : decode b_P_append 70 = .ok (.iinc 4 (-1), 3) := by decide +kernel
theorem d_P_append_73 : decode b_P_append 73 = .ok (.goto (-40), 3) := by decide +kernel
theorem d_P_append_76 : decode b_P_append 76 = .ok (.aload_n 0, 1) := by decide +kernel
theorem d_P_append_77 : decode b_P_append 77 = .ok (.getfield 15, 3) := by decide +kernel
theorem d_P_append_80 : decode b_P_append 80 = .ok (.ireturn, 1) := by decide +kernel
theorem d_P_clear_0 : decode b_P_clear 0 = .ok (.aload_n 0, 1) := by decide +kernel
theorem d_P_clear_1 : decode b_P_clear 1 = .ok (.getfield 15, 3) := by decide +kernel
theorem d_P_clear_4 : decode b_P_clear 4 = .ok (.istore_n 1, 1) := by decide +kernel
theorem d_P_clear_5 : decode b_P_clear 5 = .ok (.aload_n 0, 1) := by decide +kernel
theorem d_P_clear_6 : decode b_P_clear 6 = .ok (.iconst 0, 1) := by decide +kernel
theorem d_P_clear_7 : decode b_P_clear 7 = .ok (.putfield 15, 3) := by decide +kernel
theorem d_P_clear_10 : decode b_P_clear 10 = .ok (.iload_n 1, 1) := by decide +kernel
theorem d_P_clear_11 : decode b_P_clear 11 = .ok (.ireturn, 1) := by decide +kernel
theorem d_P_charactersIn_0 : decode b_P_charactersIn 0 = .ok (.lload_n 1, 1) := by decide +kernel
theorem d_P_charactersIn_1 : decode b_P_charactersIn 1 = .ok (.lstore_n 3, 1) := by decide +kernel
theorem d_P_charactersIn_2 : decode b_P_charactersIn 2 = .ok (.iconst 0, 1) := by decide +kernel
theorem d_P_charactersIn_3 : decode b_P_charactersIn 3 = .ok (.istore 5, 2) := by decide +kernel
theorem d_P_charactersIn_5 : decode b_P_charactersIn 5 = .ok (.iload 5, 2) := by decide +kernel
theorem d_P_charactersIn_7 : decode b_P_charactersIn 7 = .ok (.bipush 8, 2) := by decide +kernel
theorem d_P_charactersIn_9 : decode b_P_charactersIn 9 = .ok (.if_icmp .ge 47, 3) := by decide +kernel
theorem d_P_charactersIn_12 : decode b_P_charactersIn 12 = .ok (.lload_n 3, 1) := by decide +kernel
theorem d_P_charactersIn_13 : decode b_P_charactersIn 13 = .ok (.lconst 0, 1) := by decide +kernel
theorem d_P_charactersIn_14 : decode b_P_charactersIn 14 = .ok (.lcmp, 1) := by decide +kernel
theorem d_P_charactersIn_15 : decode b_P_charactersIn 15 = .ok (.ifCond .eq 41, 3) := by decide +kernel
theorem d_P_charactersIn_18 : decode b_P_charactersIn 18 = .ok (.lload_n 3, 1) := by decide +kernel
theorem d_P_charactersIn_19 : decode b_P_charactersIn 19 = .ok (.ldc2_w 23, 3) := by decide +kernel
theorem d_P_charactersIn_22 : decode b_P_charactersIn 22 = .ok (.land, 1) := by decide +kernel
theorem d_P_charactersIn_23 : decode b_P_charactersIn 23 = .ok (.lstore 6, 2) := by decide +kernel
theorem d_P_charactersIn_25 : decode b_P_charactersIn 25 = .ok (.lload 6, 2) := by decide +kernel
theorem d_P_charactersIn_27 : decode b_P_charactersIn 27 = .ok (.ldc2_w 25, 3) := by decide +kernel
theorem d_P_charactersIn_30 : decode b_P_charactersIn 30 = .ok (.lcmp, 1) := by decide +kernel
theorem d_P_charactersIn_31 : decode b_P_charactersIn 31 = .ok (.ifCond .lt 12, 3) := by decide +kernel
theorem d_P_charactersIn_34 : decode b_P_charactersIn 34 = .ok (.lload 6, 2) := by decide +kernel
theorem d_P_charactersIn_36 : decode b_P_charactersIn 36 = .ok (.ldc2_w 27, 3) := by decide +kernel
theorem d_P_charactersIn_39 : decode b_P_charactersIn 39 = .ok (.lcmp, 1) := by decide +kernel
theorem d_P_charactersIn_40 : decode b_P_charactersIn 40 = .ok (.ifCond .le 5, 3) := by decide +kernel
theorem d_P_charactersIn_43 : decode b_P_charactersIn 43 = .ok (.iconst 0, 1) := by decide +kernel
theorem d_P_charactersIn_44 : decode b_P_charactersIn 44 = .ok (.ireturn, 1) := by decide +kernel
theorem d_P_charactersIn_45 : decode b_P_charactersIn 45 = .ok (.lload_n 3, 1) := by decide +kernel
theorem d_P_charactersIn_46 : decode b_P_charactersIn 46 = .ok (.bipush 8, 2) := by decide +kernel
theorem d_P_charactersIn_48 : decode b_P_charactersIn 48 = .ok (.lushr, 1) := by decide +kernel
theorem d_P_charactersIn_49 : decode b_P_charactersIn 49 = .ok (.lstore_n 3, 1) := by decide +kernel
theorem d_P_charactersIn_50 : decode b_P_charactersIn 50 = .ok (.iinc 5 1, 3) := by decide +kernel
theorem d_P_charactersIn_53 : decode b_P_charactersIn 53 = .ok (.goto (-48), 3) := by decide +kernel
theorem d_P_charactersIn_56 : decode b_P_charactersIn 56 = .ok (.iload 5, 2) := by decide +kernel
theorem d_P_charactersIn_58 : decode b_P_charactersIn 58 = .ok (.ireturn, 1) := by decide +kernel
theorem d_T_init_0 : decode b_T_init 0 = .ok (.aload_n 0, 1) := by decide +kernel
theorem d_T_init_1 : decode b_T_init 1 = .ok (.invokespecial 3, 3) := by decide +kernel
theorem d_T_init_4 : decode b_T_init 4 = .ok (.aload_n 0, 1) := by decide +kernel
theorem d_T_init_5 : decode b_T_init 5 = .ok (.sipush 600, 3) := by decide +kernel
theorem d_T_init_8 : decode b_T_init 8 = .ok (.putfield 9, 3) := by decide +kernel
theorem d_T_init_11 : decode b_T_init 11 = .ok (.aload_n 0, 1) := by decide +kernel
theorem d_T_init_12 : decode b_T_init 12 = .ok (.bipush 10, 2) := by decide +kernel
theorem d_T_init_14 : decode b_T_init 14 = .ok (.putfield 15, 3) := by decide +kernel
theorem d_T_init_17 : decode b_T_init 17 = .ok (.aload_n 0, 1) := by decide +kernel
theorem d_T_init_18 : decode b_T_init 18 = .ok (.iconst 2, 1) := by decide +kernel
theorem d_T_init_19 : decode b_T_init 19 = .ok (.putfield 18, 3) := by decide +kernel
theorem d_T_init_22 : decode b_T_init 22 = .ok (.aload_n 0, 1) := by decide +kernel
theorem d_T_init_23 : decode b_T_init 23 = .ok (.iconst 0, 1) := by decide +kernel
theorem d_T_init_24 : decode b_T_init 24 = .ok (.putfield 21, 3) := by decide +kernel
theorem d_T_init_27 : decode b_T_init 27 = .ok (.aload_n 0, 1) := by decide +kernel
theorem d_T_init_28 : decode b_T_init 28 = .ok (.iconst 0, 1) := by decide +kernel
theorem d_T_init_29 : decode b_T_init 29 = .ok (.putfield 24, 3) := by decide +kernel
theorem d_T_init_32 : decode b_T_init 32 = .ok (.aload_n 0, 1) := by decide +kernel
theorem d_T_init_33 : decode b_T_init 33 = .ok (.iconst 0, 1) := by decide +kernel
theorem d_T_init_34 : decode b_T_init 34 = .ok (.putfield 27, 3) := by decide +kernel
theorem d_T_init_37 : decode b_T_init 37 = .ok (.aload_n 0, 1) := by decide +kernel
theorem d_T_init_38 : decode b_T_init 38 = .ok (.iconst 0, 1) := by decide +kernel
theorem d_T_init_39 : decode b_T_init 39 = .ok (.putfield 30, 3) := by decide +kernel
theorem d_T_init_42 : decode b_T_init 42 = .ok (.aload_n 0, 1) := by decide +kernel
theorem d_T_init_43 : decode b_T_init 43 = .ok (.iconst 0, 1) := by decide +kernel
theorem d_T_init_44 : decode b_T_init 44 = .ok (.putfield 33, 3) := by decide +kernel
theorem d_T_init_47 : decode b_T_init 47 = .ok (.aload_n 0, 1) := by decide +kernel
theorem d_T_init_48 : decode b_T_init 48 = .ok (.iconst 2, 1) := by decide +kernel
theorem d_T_init_49 : decode b_T_init 49 = .ok (.newarray .int, 2) := by decide +kernel
theorem d_T_init_51 : decode b_T_init 51 = .ok (.putfield 36, 3) := by decide +kernel
theorem d_T_init_54 : decode b_T_init 54 = .ok (.aload_n 0, 1) := by decide +kernel
theorem d_T_init_55 : decode b_T_init 55 = .ok (.bipush 40, 2) := by decide +kernel
theorem d_T_init_57 : decode b_T_init 57 = .ok (.newarray .int, 2) := by decide +kernel
theorem d_T_init_59 : decode b_T_init 59 = .ok (.putfield 40, 3) := by decide +kernel
theorem d_T_init_62 : decode b_T_init 62 = .ok (.aload_n 0, 1) := by decide +kernel
theorem d_T_init_63 : decode b_T_init 63 = .ok (.bipush 40, 2) := by decide +kernel
theorem d_T_init_65 : decode b_T_init 65 = .ok (.newarray .int, 2) := by decide +kernel
theorem d_T_init_67 : decode b_T_init 67 = .ok (.putfield 43, 3) := by decide +kernel
theorem d_T_init_70 : decode b_T_init 70 = .ok (.aload_n 0, 1) := by decide +kernel
theorem d_T_init_71 : decode b_T_init 71 = .ok (.bipush 40, 2) := by decide +kernel
theorem d_T_init_73 : decode b_T_init 73 = .ok (.newarray .int, 2) := by decide +kernel
theorem d_T_init_75 : decode b_T_init 75 = .ok (.putfield 46, 3) := by decide +kernel
theorem d_T_init_78 : decode b_T_init 78 = .ok (.aload_n 0, 1) := by decide +kernel
theorem d_T_init_79 : decode b_T_init 79 = .ok (.bipush 40, 2) := by decide +kernel
theorem d_T_init_81 : decode b_T_init 81 = .ok (.newarray .int, 2) := by decide +kernel
theorem d_T_init_83 : decode b_T_init 83 = .ok (.putfield 49, 3) := by decide +kernel
theorem d_T_init_86 : decode b_T_init 86 = .ok (.return_, 1) := by decide +kernel
theorem d_T_copyFrom_0 : decode b_T_copyFrom 0 = .ok (.aload_n 0, 1) := by decide +kernel
theorem d_T_copyFrom_1 : decode b_T_copyFrom 1 = .ok (.aload_n 1, 1) := by decide +kernel
theorem d_T_copyFrom_2 : decode b_T_copyFrom 2 = .ok (.getfield 9, 3) := by decide +kernel
theorem d_T_copyFrom_5 : decode b_T_copyFrom 5 = .ok (.putfield 9, 3) := by decide +kernel
theorem d_T_copyFrom_8 : decode b_T_copyFrom 8 = .ok (.aload_n 0, 1) := by decide +kernel
theorem d_T_copyFrom_9 : decode b_T_copyFrom 9 = .ok (.aload_n 1, 1) := by decide +kernel
theorem d_T_copyFrom_10 : decode b_T_copyFrom 10 = .ok (.getfield 15, 3) := by decide +kernel
theorem d_T_copyFrom_13 : decode b_T_copyFrom 13 = .ok (.putfield 15, 3) := by decide +kernel
theorem d_T_copyFrom_16 : decode b_T_copyFrom 16 = .ok (.aload_n 0, 1) := by decide +kernel
theorem d_T_copyFrom_17 : decode b_T_copyFrom 17 = .ok (.aload_n 1, 1) := by decide +kernel
theorem d_T_copyFrom_18 : decode b_T_copyFrom 18 = .ok (.getfield 18, 3) := by decide +kernel
theorem d_T_copyFrom_21 : decode b_T_copyFrom 21 = .ok (.putfield 18, 3) := by decide +kernel
theorem d_T_copyFrom_24 : decode b_T_copyFrom 24 = .ok (.aload_n 0, 1) := by decide +kernel
theorem d_T_copyFrom_25 : decode b_T_copyFrom 25 = .ok (.aload_n 1, 1) := by decide +kernel
theorem d_T_copyFrom_26 : decode b_T_copyFrom 26 = .ok (.getfield 21, 3) := by decide +kernel
theorem d_T_copyFrom_29 : decode b_T_copyFrom 29 = .ok (.putfield 21, 3) := by decide +kernel
theorem d_T_copyFrom_32 : decode b_T_copyFrom 32 = .ok (.aload_n 0, 1) := by decide +kernel
theorem d_T_copyFrom_33 : decode b_T_copyFrom 33 = .ok (.aload_n 1, 1) := by decide +kernel
theorem d_T_copyFrom_34 : decode b_T_copyFrom 34 = .ok (.getfield 24, 3) := by decide +kernel
theorem d_T_copyFrom_37 : decode b_T_copyFrom 37 = .ok (.putfield 24, 3) := by decide +kernel
theorem d_T_copyFrom_40 : decode b_T_copyFrom 40 = .ok (.aload_n 0, 1) := by decide +kernel
theorem d_T_copyFrom_41 : decode b_T_copyFrom 41 = .ok (.aload_n 1, 1) := by decide +kernel
theorem d_T_copyFrom_42 : decode b_T_copyFrom 42 = .ok (.getfield 27, 3) := by decide +kernel
theorem d_T_copyFrom_45 : decode b_T_copyFrom 45 = .ok (.putfield 27, 3) := by decide +kernel
theorem d_T_copyFrom_48 : decode b_T_copyFrom 48 = .ok (.aload_n 0, 1) := by decide +kernel
theorem d_T_copyFrom_49 : decode b_T_copyFrom 49 = .ok (.aload_n 1, 1) := by decide +kernel
theorem d_T_copyFrom_50 : decode b_T_copyFrom 50 = .ok (.getfield 30, 3) := by decide +kernel
theorem d_T_copyFrom_53 : decode b_T_copyFrom 53 = .ok (.putfield 30, 3) := by decide +kernel
theorem d_T_copyFrom_56 : decode b_T_copyFrom 56 = .ok (.aload_n 0, 1) := by decide +kernel
theorem d_T_copyFrom_57 : decode b_T_copyFrom 57 = .ok (.aload_n 1, 1) := by decide +kernel
theorem d_T_copyFrom_58 : decode b_T_copyFrom 58 = .ok (.getfield 33, 3) := by decide +kernel
theorem d_T_copyFrom_61 : decode b_T_copyFrom 61 = .ok (.putfield 33, 3) := by decide +kernel
theorem d_T_copyFrom_64 : decode b_T_copyFrom 64 = .ok (.aload_n 1, 1) := by decide +kernel
theorem d_T_copyFrom_65 : decode b_T_copyFrom 65 = .ok (.getfield 36, 3) := by decide +kernel
theorem d_T_copyFrom_68 : decode b_T_copyFrom 68 = .ok (.iconst 0, 1) := by decide +kernel
theorem d_T_copyFrom_69 : decode b_T_copyFrom 69 = .ok (.aload_n 0, 1) := by decide +kernel
theorem d_T_copyFrom_70 : decode b_T_copyFrom 70 = .ok (.getfield 36, 3) := by decide +kernel
theorem d_T_copyFrom_73 : decode b_T_copyFrom 73 = .ok (.iconst 0, 1) := by decide +kernel
theorem d_T_copyFrom_74 : decode b_T_copyFrom 74 = .ok (.iconst 2, 1) := by decide +kernel
theorem d_T_copyFrom_75 : decode b_T_copyFrom 75 = .ok (.invokestatic 52, 3) := by decide +kernel
theorem d_T_copyFrom_78 : decode b_T_copyFrom 78 = .ok (.aload_n 1, 1) := by decide +kernel
theorem d_T_copyFrom_79 : decode b_T_copyFrom 79 = .ok (.getfield 40, 3) := by decide +kernel
theorem d_T_copyFrom_82 : decode b_T_copyFrom 82 = .ok (.iconst 0, 1) := by decide +kernel
theorem d_T_copyFrom_83 : decode b_T_copyFrom 83 = .ok (.aload_n 0, 1) := by decide +kernel
theorem d_T_copyFrom_84 : decode b_T_copyFrom 84 = .ok (.getfield 40, 3) := by decide +kernel
theorem d_T_copyFrom_87 : decode b_T_copyFrom 87 = .ok (.iconst 0, 1) := by decide +kernel
theorem d_T_copyFrom_88 : decode b_T_copyFrom 88 = .ok (.bipush 40, 2) := by decide +kernel
theorem d_T_copyFrom_90 : decode b_T_copyFrom 90 = .ok (.invokestatic 52, 3) := by decide +kernel
theorem d_T_copyFrom_93 : decode b_T_copyFrom 93 = .ok (.aload_n 1, 1) := by decide +kernel
theorem d_T_copyFrom_94 : decode b_T_copyFrom 94 = .ok (.getfield 43, 3) := by decide +kernel
theorem d_T_copyFrom_97 : decode b_T_copyFrom 97 = .ok (.iconst 0, 1) := by decide +kernel
theorem d_T_copyFrom_98 : decode b_T_copyFrom 98 = .ok (.aload_n 0, 1) := by decide +kernel
theorem d_T_copyFrom_99 : decode b_T_copyFrom 99 = .ok (.getfield 43, 3) := by decide +kernel
theorem d_T_copyFrom_102 : decode b_T_copyFrom 102 = .ok (.iconst 0, 1) := by decide +kernel
theorem d_T_copyFrom_103 : decode b_T_copyFrom 103 = .ok (.bipush 40, 2) := by decide +kernel
theorem d_T_copyFrom_105 : decode b_T_copyFrom 105 = .ok (.invokestatic 52, 3) := by decide +kernel
theorem d_T_copyFrom_108 : decode b_T_copyFrom 108 = .ok (.aload_n 1, 1) := by decide +kernel
theorem d_T_copyFrom_109 : decode b_T_copyFrom 109 = .ok (.getfield 46, 3) := by decide +kernel
theorem d_T_copyFrom_112 : decode b_T_copyFrom 112 = .ok (.iconst 0, 1) := by decide +kernel
theorem d_T_copyFrom_113 : decode b_T_copyFrom 113 = .ok (.aload_n 0, 1) := by decide +kernel
theorem d_T_copyFrom_114 : decode b_T_copyFrom 114 = .ok (.getfield 46, 3) := by decide +kernel
theorem d_T_copyFrom_117 : decode b_T_copyFrom 117 = .ok (.iconst 0, 1) := by decide +kernel
theorem d_T_copyFrom_118 : decode b_T_copyFrom 118 = .ok (.bipush 40, 2) := by decide +kernel
theorem d_T_copyFrom_120 : decode b_T_copyFrom 120 = .ok (.invokestatic 52, 3) := by decide +kernel
theorem d_T_copyFrom_123 : decode b_T_copyFrom 123 = .ok (.aload_n 1, 1) := by decide +kernel
theorem d_T_copyFrom_124 : decode b_T_copyFrom 124 = .ok (.getfield 49, 3) := by decide +kernel
theorem d_T_copyFrom_127 : decode b_T_copyFrom 127 = .ok (.iconst 0, 1) := by decide +kernel
theorem d_T_copyFrom_128 : decode b_T_copyFrom 128 = .ok (.aload_n 0, 1) := by decide +kernel
theorem d_T_copyFrom_129 : decode b_T_copyFrom 129 = .ok (.getfield 49, 3) := by decide +kernel
theorem d_T_copyFrom_132 : decode b_T_copyFrom 132 = .ok (.iconst 0, 1) := by decide +kernel
theorem d_T_copyFrom_133 : decode b_T_copyFrom 133 = .ok (.bipush 40, 2) := by decide +kernel
theorem d_T_copyFrom_135 : decode b_T_copyFrom 135 = .ok (.invokestatic 52, 3) := by decide +kernel
theorem d_T_copyFrom_138 : decode b_T_copyFrom 138 = .ok (.return_, 1) := by decide +kernel
theorem d_T_setFeet_0 : decode b_T_setFeet 0 = .ok (.iload_n 1, 1) := by decide +kernel
theorem d_T_setFeet_1 : decode b_T_setFeet 1 = .ok (.bipush 100, 2) := by decide +kernel
theorem d_T_setFeet_3 : decode b_T_setFeet 3 = .ok (.if_icmp .lt 10, 3) := by decide +kernel
theorem d_T_setFeet_6 : decode b_T_setFeet 6 = .ok (.iload_n 1, 1) := by decide +kernel
theorem d_T_setFeet_7 : decode b_T_setFeet 7 = .ok (.sipush 2000, 3) := by decide +kernel
theorem d_T_setFeet_10 : decode b_T_setFeet 10 = .ok (.if_icmp .le 6, 3) := by decide +kernel
theorem d_T_setFeet_13 : decode b_T_setFeet 13 = .ok (.bipush (-2), 2) := by decide +kernel
theorem d_T_setFeet_15 : decode b_T_setFeet 15 = .ok (.ireturn, 1) := by decide +kernel
theorem d_T_setFeet_16 : decode b_T_setFeet 16 = .ok (.aload_n 0, 1) := by decide +kernel
theorem d_T_setFeet_17 : decode b_T_setFeet 17 = .ok (.invokevirtual 58, 3) := by decide +kernel
theorem d_T_setFeet_20 : decode b_T_setFeet 20 = .ok (.ifCond .gt 10, 3) := by decide +kernel
theorem d_T_setFeet_23 : decode b_T_setFeet 23 = .ok (.aload_n 0, 1) := by decide +kernel
theorem d_T_setFeet_24 : decode b_T_setFeet 24 = .ok (.getfield 24, 3) := by decide +kernel
theorem d_T_setFeet_27 : decode b_T_setFeet 27 = .ok (.ifCond .le 6, 3) := by decide +kernel
theorem d_T_setFeet_30 : decode b_T_setFeet 30 = .ok (.bipush (-5), 2) := by decide +kernel
theorem d_T_setFeet_32 : decode b_T_setFeet 32 = .ok (.ireturn, 1) := by decide +kernel
theorem d_T_setFeet_33 : decode b_T_setFeet 33 = .ok (.aload_n 0, 1) := by decide +kernel
theorem d_T_setFeet_34 : decode b_T_setFeet 34 = .ok (.getfield 9, 3) := by decide +kernel
theorem d_T_setFeet_37 : decode b_T_setFeet 37 = .ok (.istore_n 2, 1) := by decide +kernel
theorem d_T_setFeet_38 : decode b_T_setFeet 38 = .ok (.aload_n 0, 1) := by decide +kernel
theorem d_T_setFeet_39 : decode b_T_setFeet 39 = .ok (.iload_n 1, 1) := by decide +kernel
theorem d_T_setFeet_40 : decode b_T_setFeet 40 = .ok (.putfield 9, 3) := by decide +kernel
theorem d_T_setFeet_43 : decode b_T_setFeet 43 = .ok (.aload_n 0, 1) := by decide +kernel
theorem d_T_setFeet_44 : decode b_T_setFeet 44 = .ok (.aload_n 0, 1) := by decide +kernel
theorem d_T_setFeet_45 : decode b_T_setFeet 45 = .ok (.getfield 21, 3) := by decide +kernel
theorem d_T_setFeet_48 : decode b_T_setFeet 48 = .ok (.aload_n 0, 1) := by decide +kernel
theorem d_T_setFeet_49 : decode b_T_setFeet 49 = .ok (.getfield 9, 3) := by decide +kernel
theorem d_T_setFeet_52 : decode b_T_setFeet 52 = .ok (.invokestatic 62, 3) := by decide +kernel
theorem d_T_setFeet_55 : decode b_T_setFeet 55 = .ok (.putfield 21, 3) := by decide +kernel
theorem d_T_setFeet_58 : decode b_T_setFeet 58 = .ok (.iload_n 2, 1) := by decide +kernel
theorem d_T_setFeet_59 : decode b_T_setFeet 59 = .ok (.ireturn, 1) := by decide +kernel
theorem d_T_setGapAndMark_0 : decode b_T_setGapAndMark 0 = .ok (.iload_n 1, 1) := by decide +kernel
theorem d_T_setGapAndMark_1 : decode b_T_setGapAndMark 1 = .ok (.iconst 1, 1) := by decide +kernel
theorem d_T_setGapAndMark_2 : decode b_T_setGapAndMark 2 = .ok (.if_icmp .lt 20, 3) := by decide +kernel
theorem d_T_setGapAndMark_5 : decode b_T_setGapAndMark 5 = .ok (.iload_n 1, 1) := by decide +kernel
theorem d_T_setGapAndMark_6 : decode b_T_setGapAndMark 6 = .ok (.bipush 99, 2) := by decide +kernel
theorem d_T_setGapAndMark_8 : decode b_T_setGapAndMark 8 = .ok (.if_icmp .gt 14, 3) := by decide +kernel
theorem d_T_setGapAndMark_11 : decode b_T_setGapAndMark 11 = .ok (.iload_n 2, 1) := by decide +kernel
theorem d_T_setGapAndMark_12 : decode b_T_setGapAndMark 12 = .ok (.iconst 1, 1) := by decide +kernel
theorem d_T_setGapAndMark_13 : decode b_T_setGapAndMark 13 = .ok (.if_icmp .lt 9, 3) := by decide +kernel
theorem d_T_setGapAndMark_16 : decode b_T_setGapAndMark 16 = .ok (.iload_n 2, 1) := by decide +kernel
theorem d_T_setGapAndMark_17 : decode b_T_setGapAndMark 17 = .ok (.bipush 9, 2) := by decide +kernel
theorem d_T_setGapAndMark_19 : decode b_T_setGapAndMark 19 = .ok (.if_icmp .le 6, 3) := by decide +kernel
theorem d_T_setGapAndMark_22 : decode b_T_setGapAndMark 22 = .ok (.bipush (-2), 2) := by decide +kernel
theorem d_T_setGapAndMark_24 : decode b_T_setGapAndMark 24 = .ok (.ireturn, 1) := by decide +kernel
theorem d_T_setGapAndMark_25 : decode b_T_setGapAndMark 25 = .ok (.aload_n 0, 1) := by decide +kernel
theorem d_T_setGapAndMark_26 : decode b_T_setGapAndMark 26 = .ok (.invokevirtual 68, 3) := by decide +kernel
theorem d_T_setGapAndMark_29 : decode b_T_setGapAndMark 29 = .ok (.iload_n 1, 1) := by decide +kernel
theorem d_T_setGapAndMark_30 : decode b_T_setGapAndMark 30 = .ok (.if_icmp .ge 6, 3) := by decide +kernel
theorem d_T_setGapAndMark_33 : decode b_T_setGapAndMark 33 = .ok (.bipush (-5), 2) := by decide +kernel
theorem d_T_setGapAndMark_35 : decode b_T_setGapAndMark 35 = .ok (.ireturn, 1) := by decide +kernel
theorem d_T_setGapAndMark_36 : decode b_T_setGapAndMark 36 = .ok (.aload_n 0, 1) := by decide +kernel
theorem d_T_setGapAndMark_37 : decode b_T_setGapAndMark 37 = .ok (.getfield 15, 3) := by decide +kernel
theorem d_T_setGapAndMark_40 : decode b_T_setGapAndMark 40 = .ok (.bipush 100, 2) := by decide +kernel
theorem d_T_setGapAndMark_42 : decode b_T_setGapAndMark 42 = .ok (.aload_n 0, 1) := by decide +kernel
theorem d_T_setGapAndMark_43 : decode b_T_setGapAndMark 43 = .ok (.getfield 18, 3) := by decide +kernel
theorem d_T_setGapAndMark_46 : decode b_T_setGapAndMark 46 = .ok (.imul, 1) := by decide +kernel
theorem d_T_setGapAndMark_47 : decode b_T_setGapAndMark 47 = .ok (.iadd, 1) := by decide +kernel
theorem d_T_setGapAndMark_48 : decode b_T_setGapAndMark 48 = .ok (.istore_n 3, 1) := by decide +kernel
theorem d_T_setGapAndMark_49 : decode b_T_setGapAndMark 49 = .ok (.aload_n 0, 1) := by decide +kernel
theorem d_T_setGapAndMark_50 : decode b_T_setGapAndMark 50 = .ok (.iload_n 1, 1) := by decide +kernel
theorem d_T_setGapAndMark_51 : decode b_T_setGapAndMark 51 = .ok (.putfield 15, 3) := by decide +kernel
theorem d_T_setGapAndMark_54 : decode b_T_setGapAndMark 54 = .ok (.aload_n 0, 1) := by decide +kernel
theorem d_T_setGapAndMark_55 : decode b_T_setGapAndMark 55 = .ok (.iload_n 2, 1) := by decide +kernel
theorem d_T_setGapAndMark_56 : decode b_T_setGapAndMark 56 = .ok (.putfield 18, 3) := by decide +kernel
theorem d_T_setGapAndMark_59 : decode b_T_setGapAndMark 59 = .ok (.iload_n 3, 1) := by decide +kernel
theorem d_T_setGapAndMark_60 : decode b_T_setGapAndMark 60 = .ok (.ireturn, 1) := by decide +kernel
theorem d_T_addBlock_0 : decode b_T_addBlock 0 = .ok (.aload_n 0, 1) := by decide +kernel
theorem d_T_addBlock_1 : decode b_T_addBlock 1 = .ok (.iload_n 1, 1) := by decide +kernel
theorem d_T_addBlock_2 : decode b_T_addBlock 2 = .ok (.invokevirtual 71, 3) := by decide +kernel
theorem d_T_addBlock_5 : decode b_T_addBlock 5 = .ok (.ifCond .ne 5, 3) := by decide +kernel
theorem d_T_addBlock_8 : decode b_T_addBlock 8 = .ok (.iconst (-1), 1) := by decide +kernel
theorem d_T_addBlock_9 : decode b_T_addBlock 9 = .ok (.ireturn, 1) := by decide +kernel
theorem d_T_addBlock_10 : decode b_T_addBlock 10 = .ok (.iload_n 2, 1) := by decide +kernel
theorem d_T_addBlock_11 : decode b_T_addBlock 11 = .ok (.iconst 1, 1) := by decide +kernel
theorem d_T_addBlock_12 : decode b_T_addBlock 12 = .ok (.if_icmp .lt 20, 3) := by decide +kernel
theorem d_T_addBlock_15 : decode b_T_addBlock 15 = .ok (.iload_n 2, 1) := by decide +kernel
theorem d_T_addBlock_16 : decode b_T_addBlock 16 = .ok (.bipush 99, 2) := by decide +kernel
theorem d_T_addBlock_18 : decode b_T_addBlock 18 = .ok (.if_icmp .gt 14, 3) := by decide +kernel
theorem d_T_addBlock_21 : decode b_T_addBlock 21 = .ok (.iload_n 3, 1) := by decide +kernel
theorem d_T_addBlock_22 : decode b_T_addBlock 22 = .ok (.ifCond .lt 10, 3) := by decide +kernel
theorem d_T_addBlock_25 : decode b_T_addBlock 25 = .ok (.iload_n 3, 1) := by decide +kernel
theorem d_T_addBlock_26 : decode b_T_addBlock 26 = .ok (.sipush 9999, 3) := by decide +kernel
theorem d_T_addBlock_29 : decode b_T_addBlock 29 = .ok (.if_icmp .le 6, 3) := by decide +kernel
theorem d_T_addBlock_32 : decode b_T_addBlock 32 = .ok (.bipush (-2), 2) := by decide +kernel
theorem d_T_addBlock_34 : decode b_T_addBlock 34 = .ok (.ireturn, 1) := by decide +kernel
theorem d_T_addBlock_35 : decode b_T_addBlock 35 = .ok (.aload_n 0, 1) := by decide +kernel
theorem d_T_addBlock_36 : decode b_T_addBlock 36 = .ok (.getfield 36, 3) := by decide +kernel
theorem d_T_addBlock_39 : decode b_T_addBlock 39 = .ok (.iload_n 1, 1) := by decide +kernel
theorem d_T_addBlock_40 : decode b_T_addBlock 40 = .ok (.iaload, 1) := by decide +kernel
theorem d_T_addBlock_41 : decode b_T_addBlock 41 = .ok (.bipush 20, 2) := by decide +kernel
theorem d_T_addBlock_43 : decode b_T_addBlock 43 = .ok (.if_icmp .lt 6, 3) := by decide +kernel
theorem d_T_addBlock_46 : decode b_T_addBlock 46 = .ok (.bipush (-4), 2) := by decide +kernel
theorem d_T_addBlock_48 : decode b_T_addBlock 48 = .ok (.ireturn, 1) := by decide +kernel
theorem d_T_addBlock_49 : decode b_T_addBlock 49 = .ok (.aload_n 0, 1) := by decide +kernel
theorem d_T_addBlock_50 : decode b_T_addBlock 50 = .ok (.invokevirtual 68, 3) := by decide +kernel
theorem d_T_addBlock_53 : decode b_T_addBlock 53 = .ok (.iload_n 2, 1) := by decide +kernel
theorem d_T_addBlock_54 : decode b_T_addBlock 54 = .ok (.iconst 2, 1) := by decide +kernel
theorem d_T_addBlock_55 : decode b_T_addBlock 55 = .ok (.aload_n 0, 1) := by decide +kernel
theorem d_T_addBlock_56 : decode b_T_addBlock 56 = .ok (.getfield 18, 3) := by decide +kernel
theorem d_T_addBlock_59 : decode b_T_addBlock 59 = .ok (.imul, 1) := by decide +kernel
theorem d_T_addBlock_60 : decode b_T_addBlock 60 = .ok (.iadd, 1) := by decide +kernel
theorem d_T_addBlock_61 : decode b_T_addBlock 61 = .ok (.isub, 1) := by decide +kernel
theorem d_T_addBlock_62 : decode b_T_addBlock 62 = .ok (.aload_n 0, 1) := by decide +kernel
theorem d_T_addBlock_63 : decode b_T_addBlock 63 = .ok (.getfield 15, 3) := by decide +kernel
theorem d_T_addBlock_66 : decode b_T_addBlock 66 = .ok (.if_icmp .ge 6, 3) := by decide +kernel
theorem d_T_addBlock_69 : decode b_T_addBlock 69 = .ok (.bipush (-5), 2) := by decide +kernel
theorem d_T_addBlock_71 : decode b_T_addBlock 71 = .ok (.ireturn, 1) := by decide +kernel
theorem d_T_addBlock_72 : decode b_T_addBlock 72 = .ok (.aload_n 0, 1) := by decide +kernel
theorem d_T_addBlock_73 : decode b_T_addBlock 73 = .ok (.aload_n 0, 1) := by decide +kernel
theorem d_T_addBlock_74 : decode b_T_addBlock 74 = .ok (.iload_n 1, 1) := by decide +kernel
theorem d_T_addBlock_75 : decode b_T_addBlock 75 = .ok (.invokevirtual 75, 3) := by decide +kernel
theorem d_T_addBlock_78 : decode b_T_addBlock 78 = .ok (.invokevirtual 79, 3) := by decide +kernel
theorem d_T_addBlock_81 : decode b_T_addBlock 81 = .ok (.pop, 1) := by decide +kernel
theorem d_T_addBlock_82 : decode b_T_addBlock 82 = .ok (.aload_n 0, 1) := by decide +kernel
theorem d_T_addBlock_83 : decode b_T_addBlock 83 = .ok (.getfield 36, 3) := by decide +kernel
theorem d_T_addBlock_86 : decode b_T_addBlock 86 = .ok (.iload_n 1, 1) := by decide +kernel
theorem d_T_addBlock_87 : decode b_T_addBlock 87 = .ok (.iaload, 1) := by decide +kernel
theorem d_T_addBlock_88 : decode b_T_addBlock 88 = .ok (.istore 4, 2) := by decide +kernel
theorem d_T_addBlock_90 : decode b_T_addBlock 90 = .ok (.aload_n 0, 1) := by decide +kernel
theorem d_T_addBlock_91 : decode b_T_addBlock 91 = .ok (.iload_n 1, 1) := by decide +kernel
theorem d_T_addBlock_92 : decode b_T_addBlock 92 = .ok (.iload 4, 2) := by decide +kernel
theorem d_T_addBlock_94 : decode b_T_addBlock 94 = .ok (.invokevirtual 82, 3) := by decide +kernel
theorem d_T_addBlock_97 : decode b_T_addBlock 97 = .ok (.istore 5, 2) := by decide +kernel
theorem d_T_addBlock_99 : decode b_T_addBlock 99 = .ok (.aload_n 0, 1) := by decide +kernel
theorem d_T_addBlock_100 : decode b_T_addBlock 100 = .ok (.getfield 40, 3) := by decide +kernel
theorem d_T_addBlock_103 : decode b_T_addBlock 103 = .ok (.iload 5, 2) := by decide +kernel
theorem d_T_addBlock_105 : decode b_T_addBlock 105 = .ok (.iload_n 2, 1) := by decide +kernel
theorem d_T_addBlock_106 : decode b_T_addBlock 106 = .ok (.iastore, 1) := by decide +kernel
theorem d_T_addBlock_107 : decode b_T_addBlock 107 = .ok (.aload_n 0, 1) := by decide +kernel
theorem d_T_addBlock_108 : decode b_T_addBlock 108 = .ok (.getfield 43, 3) := by decide +kernel
theorem d_T_addBlock_111 : decode b_T_addBlock 111 = .ok (.iload 5, 2) := by decide +kernel
theorem d_T_addBlock_113 : decode b_T_addBlock 113 = .ok (.iload_n 3, 1) := by decide +kernel
theorem d_T_addBlock_114 : decode b_T_addBlock 114 = .ok (.iastore, 1) := by decide +kernel
theorem d_T_addBlock_115 : decode b_T_addBlock 115 = .ok (.aload_n 0, 1) := by decide +kernel
theorem d_T_addBlock_116 : decode b_T_addBlock 116 = .ok (.getfield 46, 3) := by decide +kernel
theorem d_T_addBlock_119 : decode b_T_addBlock 119 = .ok (.iload 5, 2) := by decide +kernel
theorem d_T_addBlock_121 : decode b_T_addBlock 121 = .ok (.aload_n 0, 1) := by decide +kernel
theorem d_T_addBlock_122 : decode b_T_addBlock 122 = .ok (.getfield 18, 3) := by decide +kernel
theorem d_T_addBlock_125 : decode b_T_addBlock 125 = .ok (.iastore, 1) := by decide +kernel
theorem d_T_addBlock_126 : decode b_T_addBlock 126 = .ok (.aload_n 0, 1) := by decide +kernel
theorem d_T_addBlock_127 : decode b_T_addBlock 127 = .ok (.getfield 49, 3) := by decide +kernel
theorem d_T_addBlock_130 : decode b_T_addBlock 130 = .ok (.iload 5, 2) := by decide +kernel
theorem d_T_addBlock_132 : decode b_T_addBlock 132 = .ok (.iconst 0, 1) := by decide +kernel
theorem d_T_addBlock_133 : decode b_T_addBlock 133 = .ok (.iastore, 1) := by decide +kernel
theorem d_T_addBlock_134 : decode b_T_addBlock 134 = .ok (.aload_n 0, 1) := by decide +kernel
theorem d_T_addBlock_135 : decode b_T_addBlock 135 = .ok (.getfield 36, 3) := by decide +kernel
theorem d_T_addBlock_138 : decode b_T_addBlock 138 = .ok (.iload_n 1, 1) := by decide +kernel
theorem d_T_addBlock_139 : decode b_T_addBlock 139 = .ok (.dup2, 1) := by decide +kernel
theorem d_T_addBlock_140 : decode b_T_addBlock 140 = .ok (.iaload, 1) := by decide +kernel
theorem d_T_addBlock_141 : decode b_T_addBlock 141 = .ok (.iconst 1, 1) := by decide +kernel
theorem d_T_addBlock_142 : decode b_T_addBlock 142 = .ok (.iadd, 1) := by decide +kernel
theorem d_T_addBlock_143 : decode b_T_addBlock 143 = .ok (.iastore, 1) := by decide +kernel
theorem d_T_addBlock_144 : decode b_T_addBlock 144 = .ok (.aload_n 0, 1) := by decide +kernel
theorem d_T_addBlock_145 : decode b_T_addBlock 145 = .ok (.aload_n 0, 1) := by decide +kernel
theorem d_T_addBlock_146 : decode b_T_addBlock 146 = .ok (.iload_n 1, 1) := by decide +kernel
theorem d_T_addBlock_147 : decode b_T_addBlock 147 = .ok (.invokevirtual 75, 3) := by decide +kernel
theorem d_T_addBlock_150 : decode b_T_addBlock 150 = .ok (.invokevirtual 79, 3) := by decide +kernel
theorem d_T_addBlock_153 : decode b_T_addBlock 153 = .ok (.pop, 1) := by decide +kernel
theorem d_T_addBlock_154 : decode b_T_addBlock 154 = .ok (.iload 4, 2) := by decide +kernel
theorem d_T_addBlock_156 : decode b_T_addBlock 156 = .ok (.ireturn, 1) := by decide +kernel
theorem d_T_keepBlocks_0 : decode b_T_keepBlocks 0 = .ok (.aload_n 0, 1) := by decide +kernel
theorem d_T_keepBlocks_1 : decode b_T_keepBlocks 1 = .ok (.iload_n 1, 1) := by decide +kernel
theorem d_T_keepBlocks_2 : decode b_T_keepBlocks 2 = .ok (.invokevirtual 71, 3) := by decide +kernel
theorem d_T_keepBlocks_5 : decode b_T_keepBlocks 5 = .ok (.ifCond .ne 5, 3) := by decide +kernel
theorem d_T_keepBlocks_8 : decode b_T_keepBlocks 8 = .ok (.iconst (-1), 1) := by decide +kernel
theorem d_T_keepBlocks_9 : decode b_T_keepBlocks 9 = .ok (.ireturn, 1) := by decide +kernel
theorem d_T_keepBlocks_10 : decode b_T_keepBlocks 10 = .ok (.iload_n 2, 1) := by decide +kernel
theorem d_T_keepBlocks_11 : decode b_T_keepBlocks 11 = .ok (.ifCond .ge 6, 3) := by decide +kernel
theorem d_T_keepBlocks_14 : decode b_T_keepBlocks 14 = .ok (.bipush (-2), 2) := by decide +kernel
theorem d_T_keepBlocks_16 : decode b_T_keepBlocks 16 = .ok (.ireturn, 1) := by decide +kernel
theorem d_T_keepBlocks_17 : decode b_T_keepBlocks 17 = .ok (.iload_n 2, 1) := by decide +kernel
theorem d_T_keepBlocks_18 : decode b_T_keepBlocks 18 = .ok (.aload_n 0, 1) := by decide +kernel
theorem d_T_keepBlocks_19 : decode b_T_keepBlocks 19 = .ok (.getfield 36, 3) := by decide +kernel
theorem d_T_keepBlocks_22 : decode b_T_keepBlocks 22 = .ok (.iload_n 1, 1) := by decide +kernel
theorem d_T_keepBlocks_23 : decode b_T_keepBlocks 23 = .ok (.iaload, 1) := by decide +kernel
theorem d_T_keepBlocks_24 : decode b_T_keepBlocks 24 = .ok (.if_icmp .le 6, 3) := by decide +kernel
theorem d_T_keepBlocks_27 : decode b_T_keepBlocks 27 = .ok (.bipush (-5), 2) := by decide +kernel
theorem d_T_keepBlocks_29 : decode b_T_keepBlocks 29 = .ok (.ireturn, 1) := by decide +kernel
theorem d_T_keepBlocks_30 : decode b_T_keepBlocks 30 = .ok (.aload_n 0, 1) := by decide +kernel
theorem d_T_keepBlocks_31 : decode b_T_keepBlocks 31 = .ok (.getfield 36, 3) := by decide +kernel
theorem d_T_keepBlocks_34 : decode b_T_keepBlocks 34 = .ok (.iload_n 1, 1) := by decide +kernel
theorem d_T_keepBlocks_35 : decode b_T_keepBlocks 35 = .ok (.iaload, 1) := by decide +kernel
theorem d_T_keepBlocks_36 : decode b_T_keepBlocks 36 = .ok (.iload_n 2, 1) := by decide +kernel
theorem d_T_keepBlocks_37 : decode b_T_keepBlocks 37 = .ok (.isub, 1) := by decide +kernel
theorem d_T_keepBlocks_38 : decode b_T_keepBlocks 38 = .ok (.istore_n 3, 1) := by decide +kernel
theorem d_T_keepBlocks_39 : decode b_T_keepBlocks 39 = .ok (.aload_n 0, 1) := by decide +kernel
theorem d_T_keepBlocks_40 : decode b_T_keepBlocks 40 = .ok (.getfield 36, 3) := by decide +kernel
theorem d_T_keepBlocks_43 : decode b_T_keepBlocks 43 = .ok (.iload_n 1, 1) := by decide +kernel
theorem d_T_keepBlocks_44 : decode b_T_keepBlocks 44 = .ok (.iload_n 2, 1) := by decide +kernel
theorem d_T_keepBlocks_45 : decode b_T_keepBlocks 45 = .ok (.iastore, 1) := by decide +kernel
theorem d_T_keepBlocks_46 : decode b_T_keepBlocks 46 = .ok (.iload_n 3, 1) := by decide +kernel
theorem d_T_keepBlocks_47 : decode b_T_keepBlocks 47 = .ok (.ireturn, 1) := by decide +kernel
theorem d_T_moveHead_0 : decode b_T_moveHead 0 = .ok (.iload_n 1, 1) := by decide +kernel
theorem d_T_moveHead_1 : decode b_T_moveHead 1 = .ok (.ifCond .lt 11, 3) := by decide +kernel
theorem d_T_moveHead_4 : decode b_T_moveHead 4 = .ok (.iload_n 1, 1) := by decide +kernel
theorem d_T_moveHead_5 : decode b_T_moveHead 5 = .ok (.aload_n 0, 1) := by decide +kernel
theorem d_T_moveHead_6 : decode b_T_moveHead 6 = .ok (.getfield 9, 3) := by decide +kernel
theorem d_T_moveHead_9 : decode b_T_moveHead 9 = .ok (.if_icmp .le 6, 3) := by decide +kernel
theorem d_T_moveHead_12 : decode b_T_moveHead 12 = .ok (.bipush (-2), 2) := by decide +kernel
theorem d_T_moveHead_14 : decode b_T_moveHead 14 = .ok (.ireturn, 1) := by decide +kernel
theorem d_T_moveHead_15 : decode b_T_moveHead 15 = .ok (.aload_n 0, 1) := by decide +kernel
theorem d_T_moveHead_16 : decode b_T_moveHead 16 = .ok (.iload_n 1, 1) := by decide +kernel
theorem d_T_moveHead_17 : decode b_T_moveHead 17 = .ok (.invokevirtual 79, 3) := by decide +kernel
theorem d_T_moveHead_20 : decode b_T_moveHead 20 = .ok (.ireturn, 1) := by decide +kernel
theorem d_T_goToNearerEnd_0 : decode b_T_goToNearerEnd 0 = .ok (.aload_n 0, 1) := by decide +kernel
theorem d_T_goToNearerEnd_1 : decode b_T_goToNearerEnd 1 = .ok (.aload_n 0, 1) := by decide +kernel
theorem d_T_goToNearerEnd_2 : decode b_T_goToNearerEnd 2 = .ok (.getfield 21, 3) := by decide +kernel
theorem d_T_goToNearerEnd_5 : decode b_T_goToNearerEnd 5 = .ok (.aload_n 0, 1) := by decide +kernel
theorem d_T_goToNearerEnd_6 : decode b_T_goToNearerEnd 6 = .ok (.getfield 9, 3) := by decide +kernel
theorem d_T_goToNearerEnd_9 : decode b_T_goToNearerEnd 9 = .ok (.aload_n 0, 1) := by decide +kernel
theorem d_T_goToNearerEnd_10 : decode b_T_goToNearerEnd 10 = .ok (.getfield 21, 3) := by decide +kernel
theorem d_T_goToNearerEnd_13 : decode b_T_goToNearerEnd 13 = .ok (.isub, 1) := by decide +kernel
theorem d_T_goToNearerEnd_14 : decode b_T_goToNearerEnd 14 = .ok (.if_icmp .gt 7, 3) := by decide +kernel
theorem d_T_goToNearerEnd_17 : decode b_T_goToNearerEnd 17 = .ok (.iconst 0, 1) := by decide +kernel
theorem d_T_goToNearerEnd_18 : decode b_T_goToNearerEnd 18 = .ok (.goto 7, 3) := by decide +kernel
theorem d_T_goToNearerEnd_21 : decode b_T_goToNearerEnd 21 = .ok (.aload_n 0, 1) := by decide +kernel
theorem d_T_goToNearerEnd_22 : decode b_T_goToNearerEnd 22 = .ok (.getfield 9, 3) := by decide +kernel
theorem d_T_goToNearerEnd_25 : decode b_T_goToNearerEnd 25 = .ok (.invokevirtual 79, 3) := by decide +kernel
theorem d_T_goToNearerEnd_28 : decode b_T_goToNearerEnd 28 = .ok (.pop, 1) := by decide +kernel
theorem d_T_goToNearerEnd_29 : decode b_T_goToNearerEnd 29 = .ok (.aload_n 0, 1) := by decide +kernel
theorem d_T_goToNearerEnd_30 : decode b_T_goToNearerEnd 30 = .ok (.getfield 21, 3) := by decide +kernel
theorem d_T_goToNearerEnd_33 : decode b_T_goToNearerEnd 33 = .ok (.ireturn, 1) := by decide +kernel
theorem d_T_passBlock_0 : decode b_T_passBlock 0 = .ok (.aload_n 0, 1) := by decide +kernel
theorem d_T_passBlock_1 : decode b_T_passBlock 1 = .ok (.iload_n 1, 1) := by decide +kernel
theorem d_T_passBlock_2 : decode b_T_passBlock 2 = .ok (.iload_n 2, 1) := by decide +kernel
theorem d_T_passBlock_3 : decode b_T_passBlock 3 = .ok (.invokevirtual 85, 3) := by decide +kernel
theorem d_T_passBlock_6 : decode b_T_passBlock 6 = .ok (.ifCond .ne 5, 3) := by decide +kernel
theorem d_T_passBlock_9 : decode b_T_passBlock 9 = .ok (.iconst (-1), 1) := by decide +kernel
theorem d_T_passBlock_10 : decode b_T_passBlock 10 = .ok (.ireturn, 1) := by decide +kernel
theorem d_T_passBlock_11 : decode b_T_passBlock 11 = .ok (.iload_n 3, 1) := by decide +kernel
theorem d_T_passBlock_12 : decode b_T_passBlock 12 = .ok (.ifCond .eq 11, 3) := by decide +kernel
theorem d_T_passBlock_15 : decode b_T_passBlock 15 = .ok (.iload_n 3, 1) := by decide +kernel
theorem d_T_passBlock_16 : decode b_T_passBlock 16 = .ok (.iconst 1, 1) := by decide +kernel
theorem d_T_passBlock_17 : decode b_T_passBlock 17 = .ok (.if_icmp .eq 6, 3) := by decide +kernel
theorem d_T_passBlock_20 : decode b_T_passBlock 20 = .ok (.bipush (-2), 2) := by decide +kernel
theorem d_T_passBlock_22 : decode b_T_passBlock 22 = .ok (.ireturn, 1) := by decide +kernel
theorem d_T_passBlock_23 : decode b_T_passBlock 23 = .ok (.aload_n 0, 1) := by decide +kernel
theorem d_T_passBlock_24 : decode b_T_passBlock 24 = .ok (.iload_n 1, 1) := by decide +kernel
theorem d_T_passBlock_25 : decode b_T_passBlock 25 = .ok (.iload_n 2, 1) := by decide +kernel
theorem d_T_passBlock_26 : decode b_T_passBlock 26 = .ok (.invokevirtual 82, 3) := by decide +kernel
theorem d_T_passBlock_29 : decode b_T_passBlock 29 = .ok (.istore 4, 2) := by decide +kernel
theorem d_T_passBlock_31 : decode b_T_passBlock 31 = .ok (.aload_n 0, 1) := by decide +kernel
theorem d_T_passBlock_32 : decode b_T_passBlock 32 = .ok (.aload_n 0, 1) := by decide +kernel
theorem d_T_passBlock_33 : decode b_T_passBlock 33 = .ok (.iload_n 1, 1) := by decide +kernel
theorem d_T_passBlock_34 : decode b_T_passBlock 34 = .ok (.iload_n 2, 1) := by decide +kernel
theorem d_T_passBlock_35 : decode b_T_passBlock 35 = .ok (.iload_n 3, 1) := by decide +kernel
theorem d_T_passBlock_36 : decode b_T_passBlock 36 = .ok (.invokevirtual 89, 3) := by decide +kernel
theorem d_T_passBlock_39 : decode b_T_passBlock 39 = .ok (.invokevirtual 79, 3) := by decide +kernel
theorem d_T_passBlock_42 : decode b_T_passBlock 42 = .ok (.pop, 1) := by decide +kernel
theorem d_T_passBlock_43 : decode b_T_passBlock 43 = .ok (.aload_n 0, 1) := by decide +kernel
theorem d_T_passBlock_44 : decode b_T_passBlock 44 = .ok (.aload_n 0, 1) := by decide +kernel
theorem d_T_passBlock_45 : decode b_T_passBlock 45 = .ok (.iload_n 1, 1) := by decide +kernel
theorem d_T_passBlock_46 : decode b_T_passBlock 46 = .ok (.iload_n 2, 1) := by decide +kernel
theorem d_T_passBlock_47 : decode b_T_passBlock 47 = .ok (.iconst 1, 1) := by decide +kernel
theorem d_T_passBlock_48 : decode b_T_passBlock 48 = .ok (.iload_n 3, 1) := by decide +kernel
theorem d_T_passBlock_49 : decode b_T_passBlock 49 = .ok (.isub, 1) := by decide +kernel
theorem d_T_passBlock_50 : decode b_T_passBlock 50 = .ok (.invokevirtual 89, 3) := by decide +kernel
theorem d_T_passBlock_53 : decode b_T_passBlock 53 = .ok (.invokevirtual 79, 3) := by decide +kernel
theorem d_T_passBlock_56 : decode b_T_passBlock 56 = .ok (.pop, 1) := by decide +kernel
theorem d_T_passBlock_57 : decode b_T_passBlock 57 = .ok (.aload_n 0, 1) := by decide +kernel
theorem d_T_passBlock_58 : decode b_T_passBlock 58 = .ok (.getfield 49, 3) := by decide +kernel
theorem d_T_passBlock_61 : decode b_T_passBlock 61 = .ok (.iload 4, 2) := by decide +kernel
theorem d_T_passBlock_63 : decode b_T_passBlock 63 = .ok (.dup2, 1) := by decide +kernel
theorem d_T_passBlock_64 : decode b_T_passBlock 64 = .ok (.iaload, 1) := by decide +kernel
theorem d_T_passBlock_65 : decode b_T_passBlock 65 = .ok (.iconst 1, 1) := by decide +kernel
theorem d_T_passBlock_66 : decode b_T_passBlock 66 = .ok (.iadd, 1) := by decide +kernel
theorem d_T_passBlock_67 : decode b_T_passBlock 67 = .ok (.iastore, 1) := by decide +kernel
theorem d_T_passBlock_68 : decode b_T_passBlock 68 = .ok (.aload_n 0, 1) := by decide +kernel
theorem d_T_passBlock_69 : decode b_T_passBlock 69 = .ok (.dup, 1) := by decide +kernel
theorem d_T_passBlock_70 : decode b_T_passBlock 70 = .ok (.getfield 33, 3) := by decide +kernel
theorem d_T_passBlock_73 : decode b_T_passBlock 73 = .ok (.iconst 1, 1) := by decide +kernel
theorem d_T_passBlock_74 : decode b_T_passBlock 74 = .ok (.iadd, 1) := by decide +kernel
theorem d_T_passBlock_75 : decode b_T_passBlock 75 = .ok (.putfield 33, 3) := by decide +kernel
theorem d_T_passBlock_78 : decode b_T_passBlock 78 = .ok (.aload_n 0, 1) := by decide +kernel
theorem d_T_passBlock_79 : decode b_T_passBlock 79 = .ok (.getfield 43, 3) := by decide +kernel
theorem d_T_passBlock_82 : decode b_T_passBlock 82 = .ok (.iload 4, 2) := by decide +kernel
theorem d_T_passBlock_84 : decode b_T_passBlock 84 = .ok (.iaload, 1) := by decide +kernel
theorem d_T_passBlock_85 : decode b_T_passBlock 85 = .ok (.iload_n 2, 1) := by decide +kernel
theorem d_T_passBlock_86 : decode b_T_passBlock 86 = .ok (.iadd, 1) := by decide +kernel
theorem d_T_passBlock_87 : decode b_T_passBlock 87 = .ok (.iload_n 3, 1) := by decide +kernel
theorem d_T_passBlock_88 : decode b_T_passBlock 88 = .ok (.iadd, 1) := by decide +kernel
theorem d_T_passBlock_89 : decode b_T_passBlock 89 = .ok (.bipush 10, 2) := by decide +kernel
theorem d_T_passBlock_91 : decode b_T_passBlock 91 = .ok (.irem, 1) := by decide +kernel
theorem d_T_passBlock_92 : decode b_T_passBlock 92 = .ok (.ireturn, 1) := by decide +kernel
theorem d_T_takeOut_0 : decode b_T_takeOut 0 = .ok (.iload_n 1, 1) := by decide +kernel
theorem d_T_takeOut_1 : decode b_T_takeOut 1 = .ok (.ifCond .lt 22, 3) := by decide +kernel
theorem d_T_takeOut_4 : decode b_T_takeOut 4 = .ok (.iload_n 1, 1) := by decide +kernel
theorem d_T_takeOut_5 : decode b_T_takeOut 5 = .ok (.aload_n 0, 1) := by decide +kernel
theorem d_T_takeOut_6 : decode b_T_takeOut 6 = .ok (.getfield 9, 3) := by decide +kernel
theorem d_T_takeOut_9 : decode b_T_takeOut 9 = .ok (.if_icmp .ge 14, 3) := by decide +kernel
theorem d_T_takeOut_12 : decode b_T_takeOut 12 = .ok (.iload_n 2, 1) := by decide +kernel
theorem d_T_takeOut_13 : decode b_T_takeOut 13 = .ok (.iconst 1, 1) := by decide +kernel
theorem d_T_takeOut_14 : decode b_T_takeOut 14 = .ok (.if_icmp .lt 9, 3) := by decide +kernel
theorem d_T_takeOut_17 : decode b_T_takeOut 17 = .ok (.iload_n 2, 1) := by decide +kernel
theorem d_T_takeOut_18 : decode b_T_takeOut 18 = .ok (.bipush 50, 2) := by decide +kernel
theorem d_T_takeOut_20 : decode b_T_takeOut 20 = .ok (.if_icmp .le 6, 3) := by decide +kernel
theorem d_T_takeOut_23 : decode b_T_takeOut 23 = .ok (.bipush (-2), 2) := by decide +kernel
theorem d_T_takeOut_25 : decode b_T_takeOut 25 = .ok (.ireturn, 1) := by decide +kernel
theorem d_T_takeOut_26 : decode b_T_takeOut 26 = .ok (.iload_n 2, 1) := by decide +kernel
theorem d_T_takeOut_27 : decode b_T_takeOut 27 = .ok (.iconst 1, 1) := by decide +kernel
theorem d_T_takeOut_28 : decode b_T_takeOut 28 = .ok (.iadd, 1) := by decide +kernel
theorem d_T_takeOut_29 : decode b_T_takeOut 29 = .ok (.istore_n 3, 1) := by decide +kernel
theorem d_T_takeOut_30 : decode b_T_takeOut 30 = .ok (.aload_n 0, 1) := by decide +kernel
theorem d_T_takeOut_31 : decode b_T_takeOut 31 = .ok (.iload_n 1, 1) := by decide +kernel
theorem d_T_takeOut_32 : decode b_T_takeOut 32 = .ok (.iload_n 1, 1) := by decide +kernel
theorem d_T_takeOut_33 : decode b_T_takeOut 33 = .ok (.iload_n 3, 1) := by decide +kernel
theorem d_T_takeOut_34 : decode b_T_takeOut 34 = .ok (.iadd, 1) := by decide +kernel
theorem d_T_takeOut_35 : decode b_T_takeOut 35 = .ok (.invokevirtual 93, 3) := by decide +kernel
theorem d_T_takeOut_38 : decode b_T_takeOut 38 = .ok (.istore 4, 2) := by decide +kernel
theorem d_T_takeOut_40 : decode b_T_takeOut 40 = .ok (.iload 4, 2) := by decide +kernel
theorem d_T_takeOut_42 : decode b_T_takeOut 42 = .ok (.ifCond .lt 20, 3) := by decide +kernel
theorem d_T_takeOut_45 : decode b_T_takeOut 45 = .ok (.aload_n 0, 1) := by decide +kernel
theorem d_T_takeOut_46 : decode b_T_takeOut 46 = .ok (.getfield 40, 3) := by decide +kernel
theorem d_T_takeOut_49 : decode b_T_takeOut 49 = .ok (.iload 4, 2) := by decide +kernel
theorem d_T_takeOut_51 : decode b_T_takeOut 51 = .ok (.iaload, 1) := by decide +kernel
theorem d_T_takeOut_52 : decode b_T_takeOut 52 = .ok (.iload_n 3, 1) := by decide +kernel
theorem d_T_takeOut_53 : decode b_T_takeOut 53 = .ok (.isub, 1) := by decide +kernel
theorem d_T_takeOut_54 : decode b_T_takeOut 54 = .ok (.iconst 1, 1) := by decide +kernel
theorem d_T_takeOut_55 : decode b_T_takeOut 55 = .ok (.if_icmp .lt 7, 3) := by decide +kernel
theorem d_T_takeOut_58 : decode b_T_takeOut 58 = .ok (.iconst 1, 1) := by decide +kernel
theorem d_T_takeOut_59 : decode b_T_takeOut 59 = .ok (.goto 4, 3) := by decide +kernel
theorem d_T_takeOut_62 : decode b_T_takeOut 62 = .ok (.iconst 0, 1) := by decide +kernel
theorem d_T_takeOut_63 : decode b_T_takeOut 63 = .ok (.istore 5, 2) := by decide +kernel
theorem d_T_takeOut_65 : decode b_T_takeOut 65 = .ok (.aload_n 0, 1) := by decide +kernel
theorem d_T_takeOut_66 : decode b_T_takeOut 66 = .ok (.iload_n 1, 1) := by decide +kernel
theorem d_T_takeOut_67 : decode b_T_takeOut 67 = .ok (.iload_n 1, 1) := by decide +kernel
theorem d_T_takeOut_68 : decode b_T_takeOut 68 = .ok (.iload_n 3, 1) := by decide +kernel
theorem d_T_takeOut_69 : decode b_T_takeOut 69 = .ok (.iadd, 1) := by decide +kernel
theorem d_T_takeOut_70 : decode b_T_takeOut 70 = .ok (.invokevirtual 96, 3) := by decide +kernel
theorem d_T_takeOut_73 : decode b_T_takeOut 73 = .ok (.ifCond .eq 20, 3) := by decide +kernel
theorem d_T_takeOut_76 : decode b_T_takeOut 76 = .ok (.aload_n 0, 1) := by decide +kernel
theorem d_T_takeOut_77 : decode b_T_takeOut 77 = .ok (.invokevirtual 68, 3) := by decide +kernel
theorem d_T_takeOut_80 : decode b_T_takeOut 80 = .ok (.iload_n 3, 1) := by decide +kernel
theorem d_T_takeOut_81 : decode b_T_takeOut 81 = .ok (.isub, 1) := by decide +kernel
theorem d_T_takeOut_82 : decode b_T_takeOut 82 = .ok (.aload_n 0, 1) := by decide +kernel
theorem d_T_takeOut_83 : decode b_T_takeOut 83 = .ok (.getfield 15, 3) := by decide +kernel
theorem d_T_takeOut_86 : decode b_T_takeOut 86 = .ok (.if_icmp .lt 7, 3) := by decide +kernel
theorem d_T_takeOut_89 : decode b_T_takeOut 89 = .ok (.iconst 1, 1) := by decide +kernel
theorem d_T_takeOut_90 : decode b_T_takeOut 90 = .ok (.goto 4, 3) := by decide +kernel
theorem d_T_takeOut_93 : decode b_T_takeOut 93 = .ok (.iconst 0, 1) := by decide +kernel
theorem d_T_takeOut_94 : decode b_T_takeOut 94 = .ok (.istore 6, 2) := by decide +kernel
theorem d_T_takeOut_96 : decode b_T_takeOut 96 = .ok (.iload 5, 2) := by decide +kernel
theorem d_T_takeOut_98 : decode b_T_takeOut 98 = .ok (.ifCond .ne 11, 3) := by decide +kernel
theorem d_T_takeOut_101 : decode b_T_takeOut 101 = .ok (.iload 6, 2) := by decide +kernel
theorem d_T_takeOut_103 : decode b_T_takeOut 103 = .ok (.ifCond .ne 6, 3) := by decide +kernel
theorem d_T_takeOut_106 : decode b_T_takeOut 106 = .ok (.bipush (-5), 2) := by decide +kernel
theorem d_T_takeOut_108 : decode b_T_takeOut 108 = .ok (.ireturn, 1) := by decide +kernel
theorem d_T_takeOut_109 : decode b_T_takeOut 109 = .ok (.aload_n 0, 1) := by decide +kernel
theorem d_T_takeOut_110 : decode b_T_takeOut 110 = .ok (.getfield 24, 3) := by decide +kernel
theorem d_T_takeOut_113 : decode b_T_takeOut 113 = .ok (.bipush 9, 2) := by decide +kernel
theorem d_T_takeOut_115 : decode b_T_takeOut 115 = .ok (.if_icmp .lt 6, 3) := by decide +kernel
theorem d_T_takeOut_118 : decode b_T_takeOut 118 = .ok (.bipush (-4), 2) := by decide +kernel
theorem d_T_takeOut_120 : decode b_T_takeOut 120 = .ok (.ireturn, 1) := by decide +kernel
theorem d_T_takeOut_121 : decode b_T_takeOut 121 = .ok (.iload 4, 2) := by decide +kernel
theorem d_T_takeOut_123 : decode b_T_takeOut 123 = .ok (.ifCond .lt 22, 3) := by decide +kernel
theorem d_T_takeOut_126 : decode b_T_takeOut 126 = .ok (.aload_n 0, 1) := by decide +kernel
theorem d_T_takeOut_127 : decode b_T_takeOut 127 = .ok (.getfield 40, 3) := by decide +kernel
theorem d_T_takeOut_130 : decode b_T_takeOut 130 = .ok (.iload 4, 2) := by decide +kernel
theorem d_T_takeOut_132 : decode b_T_takeOut 132 = .ok (.dup2, 1) := by decide +kernel
theorem d_T_takeOut_133 : decode b_T_takeOut 133 = .ok (.iaload, 1) := by decide +kernel
theorem d_T_takeOut_134 : decode b_T_takeOut 134 = .ok (.iload_n 3, 1) := by decide +kernel
theorem d_T_takeOut_135 : decode b_T_takeOut 135 = .ok (.isub, 1) := by decide +kernel
theorem d_T_takeOut_136 : decode b_T_takeOut 136 = .ok (.iastore, 1) := by decide +kernel
theorem d_T_takeOut_137 : decode b_T_takeOut 137 = .ok (.aload_n 0, 1) := by decide +kernel
theorem d_T_takeOut_138 : decode b_T_takeOut 138 = .ok (.getfield 43, 3) := by decide +kernel
theorem d_T_takeOut_141 : decode b_T_takeOut 141 = .ok (.iload 4, 2) := by decide +kernel
theorem d_T_takeOut_143 : decode b_T_takeOut 143 = .ok (.iconst 0, 1) := by decide +kernel
theorem d_T_takeOut_144 : decode b_T_takeOut 144 = .ok (.iastore, 1) := by decide +kernel
theorem d_T_takeOut_145 : decode b_T_takeOut 145 = .ok (.aload_n 0, 1) := by decide +kernel
theorem d_T_takeOut_146 : decode b_T_takeOut 146 = .ok (.dup, 1) := by decide +kernel
theorem d_T_takeOut_147 : decode b_T_takeOut 147 = .ok (.getfield 9, 3) := by decide +kernel
theorem d_T_takeOut_150 : decode b_T_takeOut 150 = .ok (.iload_n 3, 1) := by decide +kernel
theorem d_T_takeOut_151 : decode b_T_takeOut 151 = .ok (.isub, 1) := by decide +kernel
theorem d_T_takeOut_152 : decode b_T_takeOut 152 = .ok (.putfield 9, 3) := by decide +kernel
theorem d_T_takeOut_155 : decode b_T_takeOut 155 = .ok (.aload_n 0, 1) := by decide +kernel
theorem d_T_takeOut_156 : decode b_T_takeOut 156 = .ok (.dup, 1) := by decide +kernel
theorem d_T_takeOut_157 : decode b_T_takeOut 157 = .ok (.getfield 21, 3) := by decide +kernel
theorem d_T_takeOut_160 : decode b_T_takeOut 160 = .ok (.iconst 0, 1) := by decide +kernel
theorem d_T_takeOut_161 : decode b_T_takeOut 161 = .ok (.iload_n 3, 1) := by decide +kernel
theorem d_T_takeOut_162 : decode b_T_takeOut 162 = .ok (.aload_n 0, 1) := by decide +kernel
theorem d_T_takeOut_163 : decode b_T_takeOut 163 = .ok (.getfield 21, 3) := by decide +kernel
theorem d_T_takeOut_166 : decode b_T_takeOut 166 = .ok (.iload_n 1, 1) := by decide +kernel
theorem d_T_takeOut_167 : decode b_T_takeOut 167 = .ok (.isub, 1) := by decide +kernel
theorem d_T_takeOut_168 : decode b_T_takeOut 168 = .ok (.invokestatic 62, 3) := by decide +kernel
theorem d_T_takeOut_171 : decode b_T_takeOut 171 = .ok (.invokestatic 99, 3) := by decide +kernel
theorem d_T_takeOut_174 : decode b_T_takeOut 174 = .ok (.isub, 1) := by decide +kernel
theorem d_T_takeOut_175 : decode b_T_takeOut 175 = .ok (.putfield 21, 3) := by decide +kernel
theorem d_T_takeOut_178 : decode b_T_takeOut 178 = .ok (.aload_n 0, 1) := by decide +kernel
theorem d_T_takeOut_179 : decode b_T_takeOut 179 = .ok (.dup, 1) := by decide +kernel
theorem d_T_takeOut_180 : decode b_T_takeOut 180 = .ok (.getfield 24, 3) := by decide +kernel
theorem d_T_takeOut_183 : decode b_T_takeOut 183 = .ok (.iconst 1, 1) := by decide +kernel
theorem d_T_takeOut_184 : decode b_T_takeOut 184 = .ok (.iadd, 1) := by decide +kernel
theorem d_T_takeOut_185 : decode b_T_takeOut 185 = .ok (.putfield 24, 3) := by decide +kernel
theorem d_T_takeOut_188 : decode b_T_takeOut 188 = .ok (.aload_n 0, 1) := by decide +kernel
theorem d_T_takeOut_189 : decode b_T_takeOut 189 = .ok (.dup, 1) := by decide +kernel
theorem d_T_takeOut_190 : decode b_T_takeOut 190 = .ok (.getfield 27, 3) := by decide +kernel
theorem d_T_takeOut_193 : decode b_T_takeOut 193 = .ok (.iload_n 3, 1) := by decide +kernel
theorem d_T_takeOut_194 : decode b_T_takeOut 194 = .ok (.iadd, 1) := by decide +kernel
theorem d_T_takeOut_195 : decode b_T_takeOut 195 = .ok (.putfield 27, 3) := by decide +kernel
theorem d_T_takeOut_198 : decode b_T_takeOut 198 = .ok (.aload_n 0, 1) := by decide +kernel
theorem d_T_takeOut_199 : decode b_T_takeOut 199 = .ok (.getfield 9, 3) := by decide +kernel
theorem d_T_takeOut_202 : decode b_T_takeOut 202 = .ok (.ireturn, 1) := by decide +kernel
theorem d_T_travelTo_0 : decode b_T_travelTo 0 = .ok (.iload_n 1, 1) := by decide +kernel
theorem d_T_travelTo_1 : decode b_T_travelTo 1 = .ok (.aload_n 0, 1) := by decide +kernel
theorem d_T_travelTo_2 : decode b_T_travelTo 2 = .ok (.getfield 21, 3) := by decide +kernel
theorem d_T_travelTo_5 : decode b_T_travelTo 5 = .ok (.isub, 1) := by decide +kernel
theorem d_T_travelTo_6 : decode b_T_travelTo 6 = .ok (.invokestatic 102, 3) := by decide +kernel
theorem d_T_travelTo_9 : decode b_T_travelTo 9 = .ok (.istore_n 2, 1) := by decide +kernel
theorem d_T_travelTo_10 : decode b_T_travelTo 10 = .ok (.aload_n 0, 1) := by decide +kernel
theorem d_T_travelTo_11 : decode b_T_travelTo 11 = .ok (.aload_n 0, 1) := by decide +kernel
theorem d_T_travelTo_12 : decode b_T_travelTo 12 = .ok (.getfield 30, 3) := by decide +kernel
theorem d_T_travelTo_15 : decode b_T_travelTo 15 = .ok (.iload_n 2, 1) := by decide +kernel
theorem d_T_travelTo_16 : decode b_T_travelTo 16 = .ok (.iadd, 1) := by decide +kernel
theorem d_T_travelTo_17 : decode b_T_travelTo 17 = .ok (.ldc 105, 2) := by decide +kernel
theorem d_T_travelTo_19 : decode b_T_travelTo 19 = .ok (.irem, 1) := by decide +kernel
theorem d_T_travelTo_20 : decode b_T_travelTo 20 = .ok (.putfield 30, 3) := by decide +kernel
theorem d_T_travelTo_23 : decode b_T_travelTo 23 = .ok (.aload_n 0, 1) := by decide +kernel
theorem d_T_travelTo_24 : decode b_T_travelTo 24 = .ok (.iload_n 1, 1) := by decide +kernel
theorem d_T_travelTo_25 : decode b_T_travelTo 25 = .ok (.putfield 21, 3) := by decide +kernel
theorem d_T_travelTo_28 : decode b_T_travelTo 28 = .ok (.iload_n 2, 1) := by decide +kernel
theorem d_T_travelTo_29 : decode b_T_travelTo 29 = .ok (.ireturn, 1) := by decide +kernel
theorem d_T_aboutTape_0 : decode b_T_aboutTape 0 = .ok (.iload_n 1, 1) := by decide +kernel
theorem d_T_aboutTape_1 : decode b_T_aboutTape 1 = .ok (.tableswitch 105 0 9 #[55, 60, 65, 70, 75, 80, 85, 90, 95, 100], 55) := by decide +kernel
theorem d_T_aboutTape_56 : decode b_T_aboutTape 56 = .ok (.aload_n 0, 1) := by decide +kernel
theorem d_T_aboutTape_57 : decode b_T_aboutTape 57 = .ok (.getfield 9, 3) := by decide +kernel
theorem d_T_aboutTape_60 : decode b_T_aboutTape 60 = .ok (.ireturn, 1) := by decide +kernel
theorem d_T_aboutTape_61 : decode b_T_aboutTape 61 = .ok (.aload_n 0, 1) := by decide +kernel
theorem d_T_aboutTape_62 : decode b_T_aboutTape 62 = .ok (.getfield 15, 3) := by decide +kernel
theorem d_T_aboutTape_65 : decode b_T_aboutTape 65 = .ok (.ireturn, 1) := by decide +kernel
theorem d_T_aboutTape_66 : decode b_T_aboutTape 66 = .ok (.aload_n 0, 1) := by decide +kernel
theorem d_T_aboutTape_67 : decode b_T_aboutTape 67 = .ok (.getfield 18, 3) := by decide +kernel
theorem d_T_aboutTape_70 : decode b_T_aboutTape 70 = .ok (.ireturn, 1) := by decide +kernel
theorem d_T_aboutTape_71 : decode b_T_aboutTape 71 = .ok (.aload_n 0, 1) := by decide +kernel
theorem d_T_aboutTape_72 : decode b_T_aboutTape 72 = .ok (.getfield 21, 3) := by decide +kernel
theorem d_T_aboutTape_75 : decode b_T_aboutTape 75 = .ok (.ireturn, 1) := by decide +kernel
theorem d_T_aboutTape_76 : decode b_T_aboutTape 76 = .ok (.aload_n 0, 1) := by decide +kernel
theorem d_T_aboutTape_77 : decode b_T_aboutTape 77 = .ok (.invokevirtual 68, 3) := by decide +kernel
theorem d_T_aboutTape_80 : decode b_T_aboutTape 80 = .ok (.ireturn, 1) := by decide +kernel
theorem d_T_aboutTape_81 : decode b_T_aboutTape 81 = .ok (.aload_n 0, 1) := by decide +kernel
theorem d_T_aboutTape_82 : decode b_T_aboutTape 82 = .ok (.invokevirtual 58, 3) := by decide +kernel
theorem d_T_aboutTape_85 : decode b_T_aboutTape 85 = .ok (.ireturn, 1) := by decide +kernel
theorem d_T_aboutTape_86 : decode b_T_aboutTape 86 = .ok (.aload_n 0, 1) := by decide +kernel
theorem d_T_aboutTape_87 : decode b_T_aboutTape 87 = .ok (.getfield 24, 3) := by decide +kernel
theorem d_T_aboutTape_90 : decode b_T_aboutTape 90 = .ok (.ireturn, 1) := by decide +kernel
theorem d_T_aboutTape_91 : decode b_T_aboutTape 91 = .ok (.aload_n 0, 1) := by decide +kernel
theorem d_T_aboutTape_92 : decode b_T_aboutTape 92 = .ok (.getfield 27, 3) := by decide +kernel
theorem d_T_aboutTape_95 : decode b_T_aboutTape 95 = .ok (.ireturn, 1) := by decide +kernel
theorem d_T_aboutTape_96 : decode b_T_aboutTape 96 = .ok (.aload_n 0, 1) := by decide +kernel
theorem d_T_aboutTape_97 : decode b_T_aboutTape 97 = .ok (.getfield 30, 3) := by decide +kernel
theorem d_T_aboutTape_100 : decode b_T_aboutTape 100 = .ok (.ireturn, 1) := by decide +kernel
theorem d_T_aboutTape_101 : decode b_T_aboutTape 101 = .ok (.aload_n 0, 1) := by decide +kernel
theorem d_T_aboutTape_102 : decode b_T_aboutTape 102 = .ok (.getfield 33, 3) := by decide +kernel
theorem d_T_aboutTape_105 : decode b_T_aboutTape 105 = .ok (.ireturn, 1) := by decide +kernel
theorem d_T_aboutTape_106 : decode b_T_aboutTape 106 = .ok (.bipush (-2), 2) := by decide +kernel
theorem d_T_aboutTape_108 : decode b_T_aboutTape 108 = .ok (.ireturn, 1) := by decide +kernel
theorem d_T_aboutFile_0 : decode b_T_aboutFile 0 = .ok (.aload_n 0, 1) := by decide +kernel
theorem d_T_aboutFile_1 : decode b_T_aboutFile 1 = .ok (.iload_n 1, 1) := by decide +kernel
theorem d_T_aboutFile_2 : decode b_T_aboutFile 2 = .ok (.invokevirtual 71, 3) := by decide +kernel
theorem d_T_aboutFile_5 : decode b_T_aboutFile 5 = .ok (.ifCond .ne 5, 3) := by decide +kernel
theorem d_T_aboutFile_8 : decode b_T_aboutFile 8 = .ok (.iconst (-1), 1) := by decide +kernel
theorem d_T_aboutFile_9 : decode b_T_aboutFile 9 = .ok (.ireturn, 1) := by decide +kernel
theorem d_T_aboutFile_10 : decode b_T_aboutFile 10 = .ok (.iload_n 2, 1) := by decide +kernel
theorem d_T_aboutFile_11 : decode b_T_aboutFile 11 = .ok (.tableswitch 78 0 4 #[33, 40, 52, 62, 68], 33) := by decide +kernel
theorem d_T_aboutFile_44 : decode b_T_aboutFile 44 = .ok (.aload_n 0, 1) := by decide +kernel
theorem d_T_aboutFile_45 : decode b_T_aboutFile 45 = .ok (.getfield 36, 3) := by decide +kernel
theorem d_T_aboutFile_48 : decode b_T_aboutFile 48 = .ok (.iload_n 1, 1) := by decide +kernel
theorem d_T_aboutFile_49 : decode b_T_aboutFile 49 = .ok (.iaload, 1) := by decide +kernel
theorem d_T_aboutFile_50 : decode b_T_aboutFile 50 = .ok (.ireturn, 1) := by decide +kernel
theorem d_T_aboutFile_51 : decode b_T_aboutFile 51 = .ok (.aload_n 0, 1) := by decide +kernel
theorem d_T_aboutFile_52 : decode b_T_aboutFile 52 = .ok (.iload_n 1, 1) := by decide +kernel
theorem d_T_aboutFile_53 : decode b_T_aboutFile 53 = .ok (.aload_n 0, 1) := by decide +kernel
theorem d_T_aboutFile_54 : decode b_T_aboutFile 54 = .ok (.getfield 36, 3) := by decide +kernel
theorem d_T_aboutFile_57 : decode b_T_aboutFile 57 = .ok (.iload_n 1, 1) := by decide +kernel
theorem d_T_aboutFile_58 : decode b_T_aboutFile 58 = .ok (.iaload, 1) := by decide +kernel
theorem d_T_aboutFile_59 : decode b_T_aboutFile 59 = .ok (.invokevirtual 106, 3) := by decide +kernel
theorem d_T_aboutFile_62 : decode b_T_aboutFile 62 = .ok (.ireturn, 1) := by decide +kernel
theorem d_T_aboutFile_63 : decode b_T_aboutFile 63 = .ok (.aload_n 0, 1) := by decide +kernel
theorem d_T_aboutFile_64 : decode b_T_aboutFile 64 = .ok (.aload_n 0, 1) := by decide +kernel
theorem d_T_aboutFile_65 : decode b_T_aboutFile 65 = .ok (.getfield 40, 3) := by decide +kernel
theorem d_T_aboutFile_68 : decode b_T_aboutFile 68 = .ok (.iload_n 1, 1) := by decide +kernel
theorem d_T_aboutFile_69 : decode b_T_aboutFile 69 = .ok (.invokevirtual 109, 3) := by decide +kernel
theorem d_T_aboutFile_72 : decode b_T_aboutFile 72 = .ok (.ireturn, 1) := by decide +kernel
theorem d_T_aboutFile_73 : decode b_T_aboutFile 73 = .ok (.aload_n 0, 1) := by decide +kernel
theorem d_T_aboutFile_74 : decode b_T_aboutFile 74 = .ok (.iload_n 1, 1) := by decide +kernel
theorem d_T_aboutFile_75 : decode b_T_aboutFile 75 = .ok (.invokevirtual 75, 3) := by decide +kernel
theorem d_T_aboutFile_78 : decode b_T_aboutFile 78 = .ok (.ireturn, 1) := by decide +kernel
theorem d_T_aboutFile_79 : decode b_T_aboutFile 79 = .ok (.aload_n 0, 1) := by decide +kernel
theorem d_T_aboutFile_80 : decode b_T_aboutFile 80 = .ok (.aload_n 0, 1) := by decide +kernel
theorem d_T_aboutFile_81 : decode b_T_aboutFile 81 = .ok (.getfield 43, 3) := by decide +kernel
theorem d_T_aboutFile_84 : decode b_T_aboutFile 84 = .ok (.iload_n 1, 1) := by decide +kernel
theorem d_T_aboutFile_85 : decode b_T_aboutFile 85 = .ok (.invokevirtual 109, 3) := by decide +kernel
theorem d_T_aboutFile_88 : decode b_T_aboutFile 88 = .ok (.ireturn, 1) := by decide +kernel
theorem d_T_aboutFile_89 : decode b_T_aboutFile 89 = .ok (.bipush (-2), 2) := by decide +kernel
theorem d_T_aboutFile_91 : decode b_T_aboutFile 91 = .ok (.ireturn, 1) := by decide +kernel
theorem d_T_aboutBlock_0 : decode b_T_aboutBlock 0 = .ok (.aload_n 0, 1) := by decide +kernel
theorem d_T_aboutBlock_1 : decode b_T_aboutBlock 1 = .ok (.iload_n 1, 1) := by decide +kernel
theorem d_T_aboutBlock_2 : decode b_T_aboutBlock 2 = .ok (.iload_n 2, 1) := by decide +kernel
theorem d_T_aboutBlock_3 : decode b_T_aboutBlock 3 = .ok (.invokevirtual 85, 3) := by decide +kernel
theorem d_T_aboutBlock_6 : decode b_T_aboutBlock 6 = .ok (.ifCond .ne 5, 3) := by decide +kernel
theorem d_T_aboutBlock_9 : decode b_T_aboutBlock 9 = .ok (.iconst (-1), 1) := by decide +kernel
theorem d_T_aboutBlock_10 : decode b_T_aboutBlock 10 = .ok (.ireturn, 1) := by decide +kernel
theorem d_T_aboutBlock_11 : decode b_T_aboutBlock 11 = .ok (.aload_n 0, 1) := by decide +kernel
theorem d_T_aboutBlock_12 : decode b_T_aboutBlock 12 = .ok (.iload_n 1, 1) := by decide +kernel
theorem d_T_aboutBlock_13 : decode b_T_aboutBlock 13 = .ok (.iload_n 2, 1) := by decide +kernel
theorem d_T_aboutBlock_14 : decode b_T_aboutBlock 14 = .ok (.invokevirtual 82, 3) := by decide +kernel
theorem d_T_aboutBlock_17 : decode b_T_aboutBlock 17 = .ok (.istore 4, 2) := by decide +kernel
theorem d_T_aboutBlock_19 : decode b_T_aboutBlock 19 = .ok (.iload_n 3, 1) := by decide +kernel
theorem d_T_aboutBlock_20 : decode b_T_aboutBlock 20 = .ok (.tableswitch 116 0 7 #[48, 56, 64, 71, 78, 92, 100, 108], 48) := by decide +kernel
theorem d_T_aboutBlock_68 : decode b_T_aboutBlock 68 = .ok (.aload_n 0, 1) := by decide +kernel
theorem d_T_aboutBlock_69 : decode b_T_aboutBlock 69 = .ok (.getfield 40, 3) := by decide +kernel
theorem d_T_aboutBlock_72 : decode b_T_aboutBlock 72 = .ok (.iload 4, 2) := by decide +kernel
theorem d_T_aboutBlock_74 : decode b_T_aboutBlock 74 = .ok (.iaload, 1) := by decide +kernel
theorem d_T_aboutBlock_75 : decode b_T_aboutBlock 75 = .ok (.ireturn, 1) := by decide +kernel
theorem d_T_aboutBlock_76 : decode b_T_aboutBlock 76 = .ok (.aload_n 0, 1) := by decide +kernel
theorem d_T_aboutBlock_77 : decode b_T_aboutBlock 77 = .ok (.getfield 43, 3) := by decide +kernel
theorem d_T_aboutBlock_80 : decode b_T_aboutBlock 80 = .ok (.iload 4, 2) := by decide +kernel
theorem d_T_aboutBlock_82 : decode b_T_aboutBlock 82 = .ok (.iaload, 1) := by decide +kernel
theorem d_T_aboutBlock_83 : decode b_T_aboutBlock 83 = .ok (.ireturn, 1) := by decide +kernel
theorem d_T_aboutBlock_84 : decode b_T_aboutBlock 84 = .ok (.aload_n 0, 1) := by decide +kernel
theorem d_T_aboutBlock_85 : decode b_T_aboutBlock 85 = .ok (.iload 4, 2) := by decide +kernel
theorem d_T_aboutBlock_87 : decode b_T_aboutBlock 87 = .ok (.invokevirtual 113, 3) := by decide +kernel
theorem d_T_aboutBlock_90 : decode b_T_aboutBlock 90 = .ok (.ireturn, 1) := by decide +kernel
theorem d_T_aboutBlock_91 : decode b_T_aboutBlock 91 = .ok (.aload_n 0, 1) := by decide +kernel
theorem d_T_aboutBlock_92 : decode b_T_aboutBlock 92 = .ok (.iload_n 1, 1) := by decide +kernel
theorem d_T_aboutBlock_93 : decode b_T_aboutBlock 93 = .ok (.iload_n 2, 1) := by decide +kernel
theorem d_T_aboutBlock_94 : decode b_T_aboutBlock 94 = .ok (.invokevirtual 116, 3) := by decide +kernel
theorem d_T_aboutBlock_97 : decode b_T_aboutBlock 97 = .ok (.ireturn, 1) := by decide +kernel
theorem d_T_aboutBlock_98 : decode b_T_aboutBlock 98 = .ok (.aload_n 0, 1) := by decide +kernel
theorem d_T_aboutBlock_99 : decode b_T_aboutBlock 99 = .ok (.iload_n 1, 1) := by decide +kernel
theorem d_T_aboutBlock_100 : decode b_T_aboutBlock 100 = .ok (.iload_n 2, 1) := by decide +kernel
theorem d_T_aboutBlock_101 : decode b_T_aboutBlock 101 = .ok (.invokevirtual 116, 3) := by decide +kernel
theorem d_T_aboutBlock_104 : decode b_T_aboutBlock 104 = .ok (.aload_n 0, 1) := by decide +kernel
theorem d_T_aboutBlock_105 : decode b_T_aboutBlock 105 = .ok (.iload 4, 2) := by decide +kernel
theorem d_T_aboutBlock_107 : decode b_T_aboutBlock 107 = .ok (.invokevirtual 113, 3) := by decide +kernel
theorem d_T_aboutBlock_110 : decode b_T_aboutBlock 110 = .ok (.iadd, 1) := by decide +kernel
theorem d_T_aboutBlock_111 : decode b_T_aboutBlock 111 = .ok (.ireturn, 1) := by decide +kernel
theorem d_T_aboutBlock_112 : decode b_T_aboutBlock 112 = .ok (.aload_n 0, 1) := by decide +kernel
theorem d_T_aboutBlock_113 : decode b_T_aboutBlock 113 = .ok (.getfield 49, 3) := by decide +kernel
theorem d_T_aboutBlock_116 : decode b_T_aboutBlock 116 = .ok (.iload 4, 2) := by decide +kernel
theorem d_T_aboutBlock_118 : decode b_T_aboutBlock 118 = .ok (.iaload, 1) := by decide +kernel
theorem d_T_aboutBlock_119 : decode b_T_aboutBlock 119 = .ok (.ireturn, 1) := by decide +kernel
theorem d_T_aboutBlock_120 : decode b_T_aboutBlock 120 = .ok (.aload_n 0, 1) := by decide +kernel
theorem d_T_aboutBlock_121 : decode b_T_aboutBlock 121 = .ok (.iload_n 1, 1) := by decide +kernel
theorem d_T_aboutBlock_122 : decode b_T_aboutBlock 122 = .ok (.iload_n 2, 1) := by decide +kernel
theorem d_T_aboutBlock_123 : decode b_T_aboutBlock 123 = .ok (.iconst 0, 1) := by decide +kernel
theorem d_T_aboutBlock_124 : decode b_T_aboutBlock 124 = .ok (.invokevirtual 119, 3) := by decide +kernel
theorem d_T_aboutBlock_127 : decode b_T_aboutBlock 127 = .ok (.ireturn, 1) := by decide +kernel
theorem d_T_aboutBlock_128 : decode b_T_aboutBlock 128 = .ok (.aload_n 0, 1) := by decide +kernel
theorem d_T_aboutBlock_129 : decode b_T_aboutBlock 129 = .ok (.iload_n 1, 1) := by decide +kernel
theorem d_T_aboutBlock_130 : decode b_T_aboutBlock 130 = .ok (.iload_n 2, 1) := by decide +kernel
theorem d_T_aboutBlock_131 : decode b_T_aboutBlock 131 = .ok (.iconst 1, 1) := by decide +kernel
theorem d_T_aboutBlock_132 : decode b_T_aboutBlock 132 = .ok (.invokevirtual 119, 3) := by decide +kernel
theorem d_T_aboutBlock_135 : decode b_T_aboutBlock 135 = .ok (.ireturn, 1) := by decide +kernel
theorem d_T_aboutBlock_136 : decode b_T_aboutBlock 136 = .ok (.bipush (-2), 2) := by decide +kernel
theorem d_T_aboutBlock_138 : decode b_T_aboutBlock 138 = .ok (.ireturn, 1) := by decide +kernel
theorem d_T_kindOfFoot_0 : decode b_T_kindOfFoot 0 = .ok (.iload_n 1, 1) := by decide +kernel
theorem d_T_kindOfFoot_1 : decode b_T_kindOfFoot 1 = .ok (.ifCond .lt 11, 3) := by decide +kernel
theorem d_T_kindOfFoot_4 : decode b_T_kindOfFoot 4 = .ok (.iload_n 1, 1) := by decide +kernel
theorem d_T_kindOfFoot_5 : decode b_T_kindOfFoot 5 = .ok (.aload_n 0, 1) := by decide +kernel
theorem d_T_kindOfFoot_6 : decode b_T_kindOfFoot 6 = .ok (.getfield 9, 3) := by decide +kernel
theorem d_T_kindOfFoot_9 : decode b_T_kindOfFoot 9 = .ok (.if_icmp .lt 6, 3) := by decide +kernel
theorem d_T_kindOfFoot_12 : decode b_T_kindOfFoot 12 = .ok (.bipush (-2), 2) := by decide +kernel
theorem d_T_kindOfFoot_14 : decode b_T_kindOfFoot 14 = .ok (.ireturn, 1) := by decide +kernel
theorem d_T_kindOfFoot_15 : decode b_T_kindOfFoot 15 = .ok (.aload_n 0, 1) := by decide +kernel
theorem d_T_kindOfFoot_16 : decode b_T_kindOfFoot 16 = .ok (.iload_n 1, 1) := by decide +kernel
theorem d_T_kindOfFoot_17 : decode b_T_kindOfFoot 17 = .ok (.iload_n 1, 1) := by decide +kernel
theorem d_T_kindOfFoot_18 : decode b_T_kindOfFoot 18 = .ok (.iconst 1, 1) := by decide +kernel
theorem d_T_kindOfFoot_19 : decode b_T_kindOfFoot 19 = .ok (.iadd, 1) := by decide +kernel
theorem d_T_kindOfFoot_20 : decode b_T_kindOfFoot 20 = .ok (.invokevirtual 96, 3) := by decide +kernel
theorem d_T_kindOfFoot_23 : decode b_T_kindOfFoot 23 = .ok (.ifCond .eq 5, 3) := by decide +kernel
theorem d_T_kindOfFoot_26 : decode b_T_kindOfFoot 26 = .ok (.iconst 0, 1) := by decide +kernel
theorem d_T_kindOfFoot_27 : decode b_T_kindOfFoot 27 = .ok (.ireturn, 1) := by decide +kernel
theorem d_T_kindOfFoot_28 : decode b_T_kindOfFoot 28 = .ok (.iload_n 1, 1) := by decide +kernel
theorem d_T_kindOfFoot_29 : decode b_T_kindOfFoot 29 = .ok (.aload_n 0, 1) := by decide +kernel
theorem d_T_kindOfFoot_30 : decode b_T_kindOfFoot 30 = .ok (.iconst 0, 1) := by decide +kernel
theorem d_T_kindOfFoot_31 : decode b_T_kindOfFoot 31 = .ok (.invokevirtual 75, 3) := by decide +kernel
theorem d_T_kindOfFoot_34 : decode b_T_kindOfFoot 34 = .ok (.if_icmp .ge 7, 3) := by decide +kernel
theorem d_T_kindOfFoot_37 : decode b_T_kindOfFoot 37 = .ok (.iconst 1, 1) := by decide +kernel
theorem d_T_kindOfFoot_38 : decode b_T_kindOfFoot 38 = .ok (.goto 5, 3) := by decide +kernel
theorem d_T_kindOfFoot_41 : decode b_T_kindOfFoot 41 = .ok (.bipush 11, 2) := by decide +kernel
theorem d_T_kindOfFoot_43 : decode b_T_kindOfFoot 43 = .ok (.istore_n 2, 1) := by decide +kernel
theorem d_T_kindOfFoot_44 : decode b_T_kindOfFoot 44 = .ok (.aload_n 0, 1) := by decide +kernel
theorem d_T_kindOfFoot_45 : decode b_T_kindOfFoot 45 = .ok (.iload_n 1, 1) := by decide +kernel
theorem d_T_kindOfFoot_46 : decode b_T_kindOfFoot 46 = .ok (.iload_n 1, 1) := by decide +kernel
theorem d_T_kindOfFoot_47 : decode b_T_kindOfFoot 47 = .ok (.iconst 1, 1) := by decide +kernel
theorem d_T_kindOfFoot_48 : decode b_T_kindOfFoot 48 = .ok (.iadd, 1) := by decide +kernel
theorem d_T_kindOfFoot_49 : decode b_T_kindOfFoot 49 = .ok (.invokevirtual 93, 3) := by decide +kernel
theorem d_T_kindOfFoot_52 : decode b_T_kindOfFoot 52 = .ok (.ifCond .ge 7, 3) := by decide +kernel
theorem d_T_kindOfFoot_55 : decode b_T_kindOfFoot 55 = .ok (.iload_n 2, 1) := by decide +kernel
theorem d_T_kindOfFoot_56 : decode b_T_kindOfFoot 56 = .ok (.goto 6, 3) := by decide +kernel
theorem d_T_kindOfFoot_59 : decode b_T_kindOfFoot 59 = .ok (.iload_n 2, 1) := by decide +kernel
theorem d_T_kindOfFoot_60 : decode b_T_kindOfFoot 60 = .ok (.iconst 1, 1) := by decide +kernel
theorem d_T_kindOfFoot_61 : decode b_T_kindOfFoot 61 = .ok (.iadd, 1) := by decide +kernel
theorem d_T_kindOfFoot_62 : decode b_T_kindOfFoot 62 = .ok (.ireturn, 1) := by decide +kernel
theorem d_T_allBlocks_0 : decode b_T_allBlocks 0 = .ok (.aload_n 0, 1) := by decide +kernel
theorem d_T_allBlocks_1 : decode b_T_allBlocks 1 = .ok (.getfield 36, 3) := by decide +kernel
theorem d_T_allBlocks_4 : decode b_T_allBlocks 4 = .ok (.iconst 0, 1) := by decide +kernel
theorem d_T_allBlocks_5 : decode b_T_allBlocks 5 = .ok (.iaload, 1) := by decide +kernel
theorem d_T_allBlocks_6 : decode b_T_allBlocks 6 = .ok (.aload_n 0, 1) := by decide +kernel
theorem d_T_allBlocks_7 : decode b_T_allBlocks 7 = .ok (.getfield 36, 3) := by decide +kernel
theorem d_T_allBlocks_10 : decode b_T_allBlocks 10 = .ok (.iconst 1, 1) := by decide +kernel
theorem d_T_allBlocks_11 : decode b_T_allBlocks 11 = .ok (.iaload, 1) := by decide +kernel
theorem d_T_allBlocks_12 : decode b_T_allBlocks 12 = .ok (.iadd, 1) := by decide +kernel
theorem d_T_allBlocks_13 : decode b_T_allBlocks 13 = .ok (.ireturn, 1) := by decide +kernel
theorem d_T_greatestData_0 : decode b_T_greatestData 0 = .ok (.aload_n 0, 1) := by decide +kernel
theorem d_T_greatestData_1 : decode b_T_greatestData 1 = .ok (.iload_n 1, 1) := by decide +kernel
theorem d_T_greatestData_2 : decode b_T_greatestData 2 = .ok (.invokevirtual 71, 3) := by decide +kernel
theorem d_T_greatestData_5 : decode b_T_greatestData 5 = .ok (.ifCond .ne 5, 3) := by decide +kernel
theorem d_T_greatestData_8 : decode b_T_greatestData 8 = .ok (.iconst (-1), 1) := by decide +kernel
theorem d_T_greatestData_9 : decode b_T_greatestData 9 = .ok (.ireturn, 1) := by decide +kernel
theorem d_T_greatestData_10 : decode b_T_greatestData 10 = .ok (.aload_n 0, 1) := by decide +kernel
theorem d_T_greatestData_11 : decode b_T_greatestData 11 = .ok (.getfield 36, 3) := by decide +kernel
theorem d_T_greatestData_14 : decode b_T_greatestData 14 = .ok (.iload_n 1, 1) := by decide +kernel
theorem d_T_greatestData_15 : decode b_T_greatestData 15 = .ok (.iaload, 1) := by decide +kernel
theorem d_T_greatestData_16 : decode b_T_greatestData 16 = .ok (.bipush 20, 2) := by decide +kernel
theorem d_T_greatestData_18 : decode b_T_greatestData 18 = .ok (.if_icmp .lt 5, 3) := by decide +kernel
theorem d_T_greatestData_21 : decode b_T_greatestData 21 = .ok (.iconst 0, 1) := by decide +kernel
theorem d_T_greatestData_22 : decode b_T_greatestData 22 = .ok (.ireturn, 1) := by decide +kernel
theorem d_T_greatestData_23 : decode b_T_greatestData 23 = .ok (.iconst 0, 1) := by decide +kernel
theorem d_T_greatestData_24 : decode b_T_greatestData 24 = .ok (.bipush 99, 2) := by decide +kernel
theorem d_T_greatestData_26 : decode b_T_greatestData 26 = .ok (.aload_n 0, 1) := by decide +kernel
theorem d_T_greatestData_27 : decode b_T_greatestData 27 = .ok (.invokevirtual 68, 3) := by decide +kernel
theorem d_T_greatestData_30 : decode b_T_greatestData 30 = .ok (.aload_n 0, 1) := by decide +kernel
theorem d_T_greatestData_31 : decode b_T_greatestData 31 = .ok (.getfield 15, 3) := by decide +kernel
theorem d_T_greatestData_34 : decode b_T_greatestData 34 = .ok (.isub, 1) := by decide +kernel
theorem d_T_greatestData_35 : decode b_T_greatestData 35 = .ok (.iconst 2, 1) := by decide +kernel
theorem d_T_greatestData_36 : decode b_T_greatestData 36 = .ok (.aload_n 0, 1) := by decide +kernel
theorem d_T_greatestData_37 : decode b_T_greatestData 37 = .ok (.getfield 18, 3) := by decide +kernel
theorem d_T_greatestData_40 : decode b_T_greatestData 40 = .ok (.imul, 1) := by decide +kernel
theorem d_T_greatestData_41 : decode b_T_greatestData 41 = .ok (.isub, 1) := by decide +kernel
theorem d_T_greatestData_42 : decode b_T_greatestData 42 = .ok (.invokestatic 62, 3) := by decide +kernel
theorem d_T_greatestData_45 : decode b_T_greatestData 45 = .ok (.invokestatic 99, 3) := by decide +kernel
theorem d_T_greatestData_48 : decode b_T_greatestData 48 = .ok (.ireturn, 1) := by decide +kernel
theorem d_T_blocksThatFit_0 : decode b_T_blocksThatFit 0 = .ok (.iload_n 1, 1) := by decide +kernel
theorem d_T_blocksThatFit_1 : decode b_T_blocksThatFit 1 = .ok (.iconst 1, 1) := by decide +kernel
theorem d_T_blocksThatFit_2 : decode b_T_blocksThatFit 2 = .ok (.if_icmp .lt 9, 3) := by decide +kernel
theorem d_T_blocksThatFit_5 : decode b_T_blocksThatFit 5 = .ok (.iload_n 1, 1) := by decide +kernel
theorem d_T_blocksThatFit_6 : decode b_T_blocksThatFit 6 = .ok (.bipush 99, 2) := by decide +kernel
theorem d_T_blocksThatFit_8 : decode b_T_blocksThatFit 8 = .ok (.if_icmp .le 6, 3) := by decide +kernel
theorem d_T_blocksThatFit_11 : decode b_T_blocksThatFit 11 = .ok (.bipush (-2), 2) := by decide +kernel
theorem d_T_blocksThatFit_13 : decode b_T_blocksThatFit 13 = .ok (.ireturn, 1) := by decide +kernel
theorem d_T_blocksThatFit_14 : decode b_T_blocksThatFit 14 = .ok (.iload_n 1, 1) := by decide +kernel
theorem d_T_blocksThatFit_15 : decode b_T_blocksThatFit 15 = .ok (.iconst 2, 1) := by decide +kernel
theorem d_T_blocksThatFit_16 : decode b_T_blocksThatFit 16 = .ok (.aload_n 0, 1) := by decide +kernel
theorem d_T_blocksThatFit_17 : decode b_T_blocksThatFit 17 = .ok (.getfield 18, 3) := by decide +kernel
theorem d_T_blocksThatFit_20 : decode b_T_blocksThatFit 20 = .ok (.imul, 1) := by decide +kernel
theorem d_T_blocksThatFit_21 : decode b_T_blocksThatFit 21 = .ok (.iadd, 1) := by decide +kernel
theorem d_T_blocksThatFit_22 : decode b_T_blocksThatFit 22 = .ok (.istore_n 2, 1) := by decide +kernel
theorem d_T_blocksThatFit_23 : decode b_T_blocksThatFit 23 = .ok (.iload_n 2, 1) := by decide +kernel
theorem d_T_blocksThatFit_24 : decode b_T_blocksThatFit 24 = .ok (.iconst 1, 1) := by decide +kernel
theorem d_T_blocksThatFit_25 : decode b_T_blocksThatFit 25 = .ok (.if_icmp .ge 5, 3) := by decide +kernel
theorem d_T_blocksThatFit_28 : decode b_T_blocksThatFit 28 = .ok (.iconst 0, 1) := by decide +kernel
theorem d_T_blocksThatFit_29 : decode b_T_blocksThatFit 29 = .ok (.ireturn, 1) := by decide +kernel
theorem d_T_blocksThatFit_30 : decode b_T_blocksThatFit 30 = .ok (.bipush 40, 2) := by decide +kernel
theorem d_T_blocksThatFit_32 : decode b_T_blocksThatFit 32 = .ok (.aload_n 0, 1) := by decide +kernel
theorem d_T_blocksThatFit_33 : decode b_T_blocksThatFit 33 = .ok (.invokevirtual 58, 3) := by decide +kernel
theorem d_T_blocksThatFit_36 : decode b_T_blocksThatFit 36 = .ok (.isub, 1) := by decide +kernel
theorem d_T_blocksThatFit_37 : decode b_T_blocksThatFit 37 = .ok (.aload_n 0, 1) := by decide +kernel
theorem d_T_blocksThatFit_38 : decode b_T_blocksThatFit 38 = .ok (.invokevirtual 68, 3) := by decide +kernel
theorem d_T_blocksThatFit_41 : decode b_T_blocksThatFit 41 = .ok (.aload_n 0, 1) := by decide +kernel
theorem d_T_blocksThatFit_42 : decode b_T_blocksThatFit 42 = .ok (.getfield 15, 3) := by decide +kernel
theorem d_T_blocksThatFit_45 : decode b_T_blocksThatFit 45 = .ok (.isub, 1) := by decide +kernel
theorem d_T_blocksThatFit_46 : decode b_T_blocksThatFit 46 = .ok (.iload_n 2, 1) := by decide +kernel
theorem d_T_blocksThatFit_47 : decode b_T_blocksThatFit 47 = .ok (.idiv, 1) := by decide +kernel
theorem d_T_blocksThatFit_48 : decode b_T_blocksThatFit 48 = .ok (.invokestatic 62, 3) := by decide +kernel
theorem d_T_blocksThatFit_51 : decode b_T_blocksThatFit 51 = .ok (.ireturn, 1) := by decide +kernel
theorem d_T_aboutNearest_0 : decode b_T_aboutNearest 0 = .ok (.iload_n 1, 1) := by decide +kernel
theorem d_T_aboutNearest_1 : decode b_T_aboutNearest 1 = .ok (.ifCond .lt 8, 3) := by decide +kernel
theorem d_T_aboutNearest_4 : decode b_T_aboutNearest 4 = .ok (.iload_n 1, 1) := by decide +kernel
theorem d_T_aboutNearest_5 : decode b_T_aboutNearest 5 = .ok (.iconst 3, 1) := by decide +kernel
theorem d_T_aboutNearest_6 : decode b_T_aboutNearest 6 = .ok (.if_icmp .le 6, 3) := by decide +kernel
theorem d_T_aboutNearest_9 : decode b_T_aboutNearest 9 = .ok (.bipush (-2), 2) := by decide +kernel
theorem d_T_aboutNearest_11 : decode b_T_aboutNearest 11 = .ok (.ireturn, 1) := by decide +kernel
theorem d_T_aboutNearest_12 : decode b_T_aboutNearest 12 = .ok (.iconst (-1), 1) := by decide +kernel
theorem d_T_aboutNearest_13 : decode b_T_aboutNearest 13 = .ok (.istore_n 2, 1) := by decide +kernel
theorem d_T_aboutNearest_14 : decode b_T_aboutNearest 14 = .ok (.bipush (-6), 2) := by decide +kernel
theorem d_T_aboutNearest_16 : decode b_T_aboutNearest 16 = .ok (.istore_n 3, 1) := by decide +kernel
theorem d_T_aboutNearest_17 : decode b_T_aboutNearest 17 = .ok (.iconst 0, 1) := by decide +kernel
theorem d_T_aboutNearest_18 : decode b_T_aboutNearest 18 = .ok (.istore 4, 2) := by decide +kernel
theorem d_T_aboutNearest_20 : decode b_T_aboutNearest 20 = .ok (.iload 4, 2) := by decide +kernel
theorem d_T_aboutNearest_22 : decode b_T_aboutNearest 22 = .ok (.iconst 2, 1) := by decide +kernel
theorem d_T_aboutNearest_23 : decode b_T_aboutNearest 23 = .ok (.if_icmp .ge 102, 3) := by decide +kernel
theorem d_T_aboutNearest_26 : decode b_T_aboutNearest 26 = .ok (.iconst 0, 1) := by decide +kernel
theorem d_T_aboutNearest_27 : decode b_T_aboutNearest 27 = .ok (.istore 5, 2) := by decide +kernel
theorem d_T_aboutNearest_29 : decode b_T_aboutNearest 29 = .ok (.iload 5, 2) := by decide +kernel
theorem d_T_aboutNearest_31 : decode b_T_aboutNearest 31 = .ok (.aload_n 0, 1) := by decide +kernel
theorem d_T_aboutNearest_32 : decode b_T_aboutNearest 32 = .ok (.getfield 36, 3) := by decide +kernel
theorem d_T_aboutNearest_35 : decode b_T_aboutNearest 35 = .ok (.iload 4, 2) := by decide +kernel
theorem d_T_aboutNearest_37 : decode b_T_aboutNearest 37 = .ok (.iaload, 1) := by decide +kernel
theorem d_T_aboutNearest_38 : decode b_T_aboutNearest 38 = .ok (.if_icmp .ge 81, 3) := by decide +kernel
theorem d_T_aboutNearest_41 : decode b_T_aboutNearest 41 = .ok (.iconst 0, 1) := by decide +kernel
theorem d_T_aboutNearest_42 : decode b_T_aboutNearest 42 = .ok (.istore 6, 2) := by decide +kernel
theorem d_T_aboutNearest_44 : decode b_T_aboutNearest 44 = .ok (.iload 6, 2) := by decide +kernel
theorem d_T_aboutNearest_46 : decode b_T_aboutNearest 46 = .ok (.iconst 1, 1) := by decide +kernel
theorem d_T_aboutNearest_47 : decode b_T_aboutNearest 47 = .ok (.if_icmp .gt 66, 3) := by decide +kernel
theorem d_T_aboutNearest_50 : decode b_T_aboutNearest 50 = .ok (.aload_n 0, 1) := by decide +kernel
theorem d_T_aboutNearest_51 : decode b_T_aboutNearest 51 = .ok (.iload 4, 2) := by decide +kernel
theorem d_T_aboutNearest_53 : decode b_T_aboutNearest 53 = .ok (.iload 5, 2) := by decide +kernel
theorem d_T_aboutNearest_55 : decode b_T_aboutNearest 55 = .ok (.iload 6, 2) := by decide +kernel
theorem d_T_aboutNearest_57 : decode b_T_aboutNearest 57 = .ok (.invokevirtual 119, 3) := by decide +kernel
theorem d_T_aboutNearest_60 : decode b_T_aboutNearest 60 = .ok (.istore 7, 2) := by decide +kernel
theorem d_T_aboutNearest_62 : decode b_T_aboutNearest 62 = .ok (.iload_n 2, 1) := by decide +kernel
theorem d_T_aboutNearest_63 : decode b_T_aboutNearest 63 = .ok (.ifCond .lt 9, 3) := by decide +kernel
theorem d_T_aboutNearest_66 : decode b_T_aboutNearest 66 = .ok (.iload 7, 2) := by decide +kernel
theorem d_T_aboutNearest_68 : decode b_T_aboutNearest 68 = .ok (.iload_n 2, 1) := by decide +kernel
theorem d_T_aboutNearest_69 : decode b_T_aboutNearest 69 = .ok (.if_icmp .ge 38, 3) := by decide +kernel
theorem d_T_aboutNearest_72 : decode b_T_aboutNearest 72 = .ok (.iload 7, 2) := by decide +kernel
theorem d_T_aboutNearest_74 : decode b_T_aboutNearest 74 = .ok (.istore_n 2, 1) := by decide +kernel
theorem d_T_aboutNearest_75 : decode b_T_aboutNearest 75 = .ok (.iload_n 1, 1) := by decide +kernel
theorem d_T_aboutNearest_76 : decode b_T_aboutNearest 76 = .ok (.ifCond .ne 8, 3) := by decide +kernel
theorem d_T_aboutNearest_79 : decode b_T_aboutNearest 79 = .ok (.iload 4, 2) := by decide +kernel
theorem d_T_aboutNearest_81 : decode b_T_aboutNearest 81 = .ok (.goto 25, 3) := by decide +kernel
theorem d_T_aboutNearest_84 : decode b_T_aboutNearest 84 = .ok (.iload_n 1, 1) := by decide +kernel
theorem d_T_aboutNearest_85 : decode b_T_aboutNearest 85 = .ok (.iconst 1, 1) := by decide +kernel
theorem d_T_aboutNearest_86 : decode b_T_aboutNearest 86 = .ok (.if_icmp .ne 8, 3) := by decide +kernel
theorem d_T_aboutNearest_89 : decode b_T_aboutNearest 89 = .ok (.iload 5, 2) := by decide +kernel
theorem d_T_aboutNearest_91 : decode b_T_aboutNearest 91 = .ok (.goto 15, 3) := by decide +kernel
theorem d_T_aboutNearest_94 : decode b_T_aboutNearest 94 = .ok (.iload_n 1, 1) := by decide +kernel
theorem d_T_aboutNearest_95 : decode b_T_aboutNearest 95 = .ok (.iconst 2, 1) := by decide +kernel
theorem d_T_aboutNearest_96 : decode b_T_aboutNearest 96 = .ok (.if_icmp .ne 8, 3) := by decide +kernel
theorem d_T_aboutNearest_99 : decode b_T_aboutNearest 99 = .ok (.iload 6, 2) := by decide +kernel
theorem d_T_aboutNearest_101 : decode b_T_aboutNearest 101 = .ok (.goto 5, 3) := by decide +kernel
theorem d_T_aboutNearest_104 : decode b_T_aboutNearest 104 = .ok (.iload 7, 2) := by decide +kernel
theorem d_T_aboutNearest_106 : decode b_T_aboutNearest 106 = .ok (.istore_n 3, 1) := by decide +kernel
theorem d_T_aboutNearest_107 : decode b_T_aboutNearest 107 = .ok (.iinc 6 1, 3) := by decide +kernel
theorem d_T_aboutNearest_110 : decode b_T_aboutNearest 110 = .ok (.goto (-66), 3) := by decide +kernel
theorem d_T_aboutNearest_113 : decode b_T_aboutNearest 113 = .ok (.iinc 5 1, 3) := by decide +kernel
theorem d_T_aboutNearest_116 : decode b_T_aboutNearest 116 = .ok (.goto (-87), 3) := by decide +kernel
theorem d_T_aboutNearest_119 : decode b_T_aboutNearest 119 = .ok (.iinc 4 1, 3) := by decide +kernel
theorem d_T_aboutNearest_122 : decode b_T_aboutNearest 122 = .ok (.goto (-102), 3) := by decide +kernel
theorem d_T_aboutNearest_125 : decode b_T_aboutNearest 125 = .ok (.iload_n 3, 1) := by decide +kernel
theorem d_T_aboutNearest_126 : decode b_T_aboutNearest 126 = .ok (.ireturn, 1) := by decide +kernel
theorem d_T_isFile_0 : decode b_T_isFile 0 = .ok (.iload_n 1, 1) := by decide +kernel
theorem d_T_isFile_1 : decode b_T_isFile 1 = .ok (.ifCond .lt 12, 3) := by decide +kernel
theorem d_T_isFile_4 : decode b_T_isFile 4 = .ok (.iload_n 1, 1) := by decide +kernel
theorem d_T_isFile_5 : decode b_T_isFile 5 = .ok (.iconst 2, 1) := by decide +kernel
theorem d_T_isFile_6 : decode b_T_isFile 6 = .ok (.if_icmp .ge 7, 3) := by decide +kernel
theorem d_T_isFile_9 : decode b_T_isFile 9 = .ok (.iconst 1, 1) := by decide +kernel
theorem d_T_isFile_10 : decode b_T_isFile 10 = .ok (.goto 4, 3) := by decide +kernel
theorem d_T_isFile_13 : decode b_T_isFile 13 = .ok (.iconst 0, 1) := by decide +kernel
theorem d_T_isFile_14 : decode b_T_isFile 14 = .ok (.ireturn, 1) := by decide +kernel
theorem d_T_isBlock_0 : decode b_T_isBlock 0 = .ok (.aload_n 0, 1) := by decide +kernel
theorem d_T_isBlock_1 : decode b_T_isBlock 1 = .ok (.iload_n 1, 1) := by decide +kernel
theorem d_T_isBlock_2 : decode b_T_isBlock 2 = .ok (.invokevirtual 71, 3) := by decide +kernel
theorem d_T_isBlock_5 : decode b_T_isBlock 5 = .ok (.ifCond .eq 21, 3) := by decide +kernel
theorem d_T_isBlock_8 : decode b_T_isBlock 8 = .ok (.iload_n 2, 1) := by decide +kernel
theorem d_T_isBlock_9 : decode b_T_isBlock 9 = .ok (.ifCond .lt 17, 3) := by decide +kernel
theorem d_T_isBlock_12 : decode b_T_isBlock 12 = .ok (.iload_n 2, 1) := by decide +kernel
theorem d_T_isBlock_13 : decode b_T_isBlock 13 = .ok (.aload_n 0, 1) := by decide +kernel
theorem d_T_isBlock_14 : decode b_T_isBlock 14 = .ok (.getfield 36, 3) := by decide +kernel
theorem d_T_isBlock_17 : decode b_T_isBlock 17 = .ok (.iload_n 1, 1) := by decide +kernel
theorem d_T_isBlock_18 : decode b_T_isBlock 18 = .ok (.iaload, 1) := by decide +kernel
theorem d_T_isBlock_19 : decode b_T_isBlock 19 = .ok (.if_icmp .ge 7, 3) := by decide +kernel
theorem d_T_isBlock_22 : decode b_T_isBlock 22 = .ok (.iconst 1, 1) := by decide +kernel
theorem d_T_isBlock_23 : decode b_T_isBlock 23 = .ok (.goto 4, 3) := by decide +kernel
theorem d_T_isBlock_26 : decode b_T_isBlock 26 = .ok (.iconst 0, 1) := by decide +kernel
theorem d_T_isBlock_27 : decode b_T_isBlock 27 = .ok (.ireturn, 1) := by decide +kernel
theorem d_T_rowOf_0 : decode b_T_rowOf 0 = .ok (.iload_n 1, 1) := by decide +kernel
theorem d_T_rowOf_1 : decode b_T_rowOf 1 = .ok (.bipush 20, 2) := by decide +kernel
theorem d_T_rowOf_3 : decode b_T_rowOf 3 = .ok (.imul, 1) := by decide +kernel
theorem d_T_rowOf_4 : decode b_T_rowOf 4 = .ok (.iload_n 2, 1) := by decide +kernel
theorem d_T_rowOf_5 : decode b_T_rowOf 5 = .ok (.iadd, 1) := by decide +kernel
theorem d_T_rowOf_6 : decode b_T_rowOf 6 = .ok (.ireturn, 1) := by decide +kernel
theorem d_T_wholeLength_0 : decode b_T_wholeLength 0 = .ok (.aload_n 0, 1) := by decide +kernel
theorem d_T_wholeLength_1 : decode b_T_wholeLength 1 = .ok (.getfield 40, 3) := by decide +kernel
theorem d_T_wholeLength_4 : decode b_T_wholeLength 4 = .ok (.iload_n 1, 1) := by decide +kernel
theorem d_T_wholeLength_5 : decode b_T_wholeLength 5 = .ok (.iaload, 1) := by decide +kernel
theorem d_T_wholeLength_6 : decode b_T_wholeLength 6 = .ok (.iconst 2, 1) := by decide +kernel
theorem d_T_wholeLength_7 : decode b_T_wholeLength 7 = .ok (.aload_n 0, 1) := by decide +kernel
theorem d_T_wholeLength_8 : decode b_T_wholeLength 8 = .ok (.getfield 46, 3) := by decide +kernel
theorem d_T_wholeLength_11 : decode b_T_wholeLength 11 = .ok (.iload_n 1, 1) := by decide +kernel
theorem d_T_wholeLength_12 : decode b_T_wholeLength 12 = .ok (.iaload, 1) := by decide +kernel
theorem d_T_wholeLength_13 : decode b_T_wholeLength 13 = .ok (.imul, 1) := by decide +kernel
theorem d_T_wholeLength_14 : decode b_T_wholeLength 14 = .ok (.iadd, 1) := by decide +kernel
theorem d_T_wholeLength_15 : decode b_T_wholeLength 15 = .ok (.ireturn, 1) := by decide +kernel
theorem d_T_totalOf_0 : decode b_T_totalOf 0 = .ok (.iconst 0, 1) := by decide +kernel
theorem d_T_totalOf_1 : decode b_T_totalOf 1 = .ok (.istore_n 3, 1) := by decide +kernel
theorem d_T_totalOf_2 : decode b_T_totalOf 2 = .ok (.iconst 0, 1) := by decide +kernel
theorem d_T_totalOf_3 : decode b_T_totalOf 3 = .ok (.istore 4, 2) := by decide +kernel
theorem d_T_totalOf_5 : decode b_T_totalOf 5 = .ok (.iload 4, 2) := by decide +kernel
theorem d_T_totalOf_7 : decode b_T_totalOf 7 = .ok (.aload_n 0, 1) := by decide +kernel
theorem d_T_totalOf_8 : decode b_T_totalOf 8 = .ok (.getfield 36, 3) := by decide +kernel
theorem d_T_totalOf_11 : decode b_T_totalOf 11 = .ok (.iload_n 2, 1) := by decide +kernel
theorem d_T_totalOf_12 : decode b_T_totalOf 12 = .ok (.iaload, 1) := by decide +kernel
theorem d_T_totalOf_13 : decode b_T_totalOf 13 = .ok (.if_icmp .ge 21, 3) := by decide +kernel
theorem d_T_totalOf_16 : decode b_T_totalOf 16 = .ok (.iload_n 3, 1) := by decide +kernel
theorem d_T_totalOf_17 : decode b_T_totalOf 17 = .ok (.aload_n 1, 1) := by decide +kernel
theorem d_T_totalOf_18 : decode b_T_totalOf 18 = .ok (.aload_n 0, 1) := by decide +kernel
theorem d_T_totalOf_19 : decode b_T_totalOf 19 = .ok (.iload_n 2, 1) := by decide +kernel
theorem d_T_totalOf_20 : decode b_T_totalOf 20 = .ok (.iload 4, 2) := by decide +kernel
theorem d_T_totalOf_22 : decode b_T_totalOf 22 = .ok (.invokevirtual 82, 3) := by decide +kernel
theorem d_T_totalOf_25 : decode b_T_totalOf 25 = .ok (.iaload, 1) := by decide +kernel
theorem d_T_totalOf_26 : decode b_T_totalOf 26 = .ok (.iadd, 1) := by decide +kernel
theorem d_T_totalOf_27 : decode b_T_totalOf 27 = .ok (.istore_n 3, 1) := by decide +kernel
theorem d_T_totalOf_28 : decode b_T_totalOf 28 = .ok (.iinc 4 1, 3) := by decide +kernel
theorem d_T_totalOf_31 : decode b_T_totalOf 31 = .ok (.goto (-26), 3) := by decide +kernel
theorem d_T_totalOf_34 : decode b_T_totalOf 34 = .ok (.iload_n 3, 1) := by decide +kernel
theorem d_T_totalOf_35 : decode b_T_totalOf 35 = .ok (.ireturn, 1) := by decide +kernel
theorem d_T_feetOfFirst_0 : decode b_T_feetOfFirst 0 = .ok (.iconst 0, 1) := by decide +kernel
theorem d_T_feetOfFirst_1 : decode b_T_feetOfFirst 1 = .ok (.istore_n 3, 1) := by decide +kernel
theorem d_T_feetOfFirst_2 : decode b_T_feetOfFirst 2 = .ok (.iconst 0, 1) := by decide +kernel
theorem d_T_feetOfFirst_3 : decode b_T_feetOfFirst 3 = .ok (.istore 4, 2) := by decide +kernel
theorem d_T_feetOfFirst_5 : decode b_T_feetOfFirst 5 = .ok (.iload 4, 2) := by decide +kernel
theorem d_T_feetOfFirst_7 : decode b_T_feetOfFirst 7 = .ok (.iload_n 2, 1) := by decide +kernel
theorem d_T_feetOfFirst_8 : decode b_T_feetOfFirst 8 = .ok (.if_icmp .ge 23, 3) := by decide +kernel
theorem d_T_feetOfFirst_11 : decode b_T_feetOfFirst 11 = .ok (.iload_n 3, 1) := by decide +kernel
theorem d_T_feetOfFirst_12 : decode b_T_feetOfFirst 12 = .ok (.aload_n 0, 1) := by decide +kernel
theorem d_T_feetOfFirst_13 : decode b_T_feetOfFirst 13 = .ok (.aload_n 0, 1) := by decide +kernel
theorem d_T_feetOfFirst_14 : decode b_T_feetOfFirst 14 = .ok (.iload_n 1, 1) := by decide +kernel
theorem d_T_feetOfFirst_15 : decode b_T_feetOfFirst 15 = .ok (.iload 4, 2) := by decide +kernel
theorem d_T_feetOfFirst_17 : decode b_T_feetOfFirst 17 = .ok (.invokevirtual 82, 3) := by decide +kernel
theorem d_T_feetOfFirst_20 : decode b_T_feetOfFirst 20 = .ok (.invokevirtual 113, 3) := by decide +kernel
theorem d_T_feetOfFirst_23 : decode b_T_feetOfFirst 23 = .ok (.iadd, 1) := by decide +kernel
theorem d_T_feetOfFirst_24 : decode b_T_feetOfFirst 24 = .ok (.istore_n 3, 1) := by decide +kernel
theorem d_T_feetOfFirst_25 : decode b_T_feetOfFirst 25 = .ok (.iinc 4 1, 3) := by decide +kernel
theorem d_T_feetOfFirst_28 : decode b_T_feetOfFirst 28 = .ok (.goto (-23), 3) := by decide +kernel
theorem d_T_feetOfFirst_31 : decode b_T_feetOfFirst 31 = .ok (.iload_n 3, 1) := by decide +kernel
theorem d_T_feetOfFirst_32 : decode b_T_feetOfFirst 32 = .ok (.ireturn, 1) := by decide +kernel
theorem d_T_gap_0 : decode b_T_gap 0 = .ok (.aload_n 0, 1) := by decide +kernel
theorem d_T_gap_1 : decode b_T_gap 1 = .ok (.getfield 9, 3) := by decide +kernel
theorem d_T_gap_4 : decode b_T_gap 4 = .ok (.aload_n 0, 1) := by decide +kernel
theorem d_T_gap_5 : decode b_T_gap 5 = .ok (.iconst 0, 1) := by decide +kernel
theorem d_T_gap_6 : decode b_T_gap 6 = .ok (.aload_n 0, 1) := by decide +kernel
theorem d_T_gap_7 : decode b_T_gap 7 = .ok (.getfield 36, 3) := by decide +kernel
theorem d_T_gap_10 : decode b_T_gap 10 = .ok (.iconst 0, 1) := by decide +kernel
theorem d_T_gap_11 : decode b_T_gap 11 = .ok (.iaload, 1) := by decide +kernel
theorem d_T_gap_12 : decode b_T_gap 12 = .ok (.invokevirtual 106, 3) := by decide +kernel
theorem d_T_gap_15 : decode b_T_gap 15 = .ok (.isub, 1) := by decide +kernel
theorem d_T_gap_16 : decode b_T_gap 16 = .ok (.aload_n 0, 1) := by decide +kernel
theorem d_T_gap_17 : decode b_T_gap 17 = .ok (.iconst 1, 1) := by decide +kernel
theorem d_T_gap_18 : decode b_T_gap 18 = .ok (.aload_n 0, 1) := by decide +kernel
theorem d_T_gap_19 : decode b_T_gap 19 = .ok (.getfield 36, 3) := by decide +kernel
theorem d_T_gap_22 : decode b_T_gap 22 = .ok (.iconst 1, 1) := by decide +kernel
theorem d_T_gap_23 : decode b_T_gap 23 = .ok (.iaload, 1) := by decide +kernel
theorem d_T_gap_24 : decode b_T_gap 24 = .ok (.invokevirtual 106, 3) := by decide +kernel
theorem d_T_gap_27 : decode b_T_gap 27 = .ok (.isub, 1) := by decide +kernel
theorem d_T_gap_28 : decode b_T_gap 28 = .ok (.ireturn, 1) := by decide +kernel
theorem d_T_endInGap_0 : decode b_T_endInGap 0 = .ok (.aload_n 0, 1) := by decide +kernel
theorem d_T_endInGap_1 : decode b_T_endInGap 1 = .ok (.iload_n 1, 1) := by decide +kernel
theorem d_T_endInGap_2 : decode b_T_endInGap 2 = .ok (.aload_n 0, 1) := by decide +kernel
theorem d_T_endInGap_3 : decode b_T_endInGap 3 = .ok (.getfield 36, 3) := by decide +kernel
theorem d_T_endInGap_6 : decode b_T_endInGap 6 = .ok (.iload_n 1, 1) := by decide +kernel
theorem d_T_endInGap_7 : decode b_T_endInGap 7 = .ok (.iaload, 1) := by decide +kernel
theorem d_T_endInGap_8 : decode b_T_endInGap 8 = .ok (.invokevirtual 106, 3) := by decide +kernel
theorem d_T_endInGap_11 : decode b_T_endInGap 11 = .ok (.istore_n 2, 1) := by decide +kernel
theorem d_T_endInGap_12 : decode b_T_endInGap 12 = .ok (.iload_n 1, 1) := by decide +kernel
theorem d_T_endInGap_13 : decode b_T_endInGap 13 = .ok (.ifCond .ne 7, 3) := by decide +kernel
theorem d_T_endInGap_16 : decode b_T_endInGap 16 = .ok (.iload_n 2, 1) := by decide +kernel
theorem d_T_endInGap_17 : decode b_T_endInGap 17 = .ok (.goto 9, 3) := by decide +kernel
theorem d_T_endInGap_20 : decode b_T_endInGap 20 = .ok (.aload_n 0, 1) := by decide +kernel
theorem d_T_endInGap_21 : decode b_T_endInGap 21 = .ok (.getfield 9, 3) := by decide +kernel
theorem d_T_endInGap_24 : decode b_T_endInGap 24 = .ok (.iload_n 2, 1) := by decide +kernel
theorem d_T_endInGap_25 : decode b_T_endInGap 25 = .ok (.isub, 1) := by decide +kernel
theorem d_T_endInGap_26 : decode b_T_endInGap 26 = .ok (.ireturn, 1) := by decide +kernel
theorem d_T_isInGap_0 : decode b_T_isInGap 0 = .ok (.iload_n 1, 1) := by decide +kernel
theorem d_T_isInGap_1 : decode b_T_isInGap 1 = .ok (.aload_n 0, 1) := by decide +kernel
theorem d_T_isInGap_2 : decode b_T_isInGap 2 = .ok (.iconst 0, 1) := by decide +kernel
theorem d_T_isInGap_3 : decode b_T_isInGap 3 = .ok (.invokevirtual 75, 3) := by decide +kernel
theorem d_T_isInGap_6 : decode b_T_isInGap 6 = .ok (.if_icmp .lt 16, 3) := by decide +kernel
theorem d_T_isInGap_9 : decode b_T_isInGap 9 = .ok (.iload_n 2, 1) := by decide +kernel
theorem d_T_isInGap_10 : decode b_T_isInGap 10 = .ok (.aload_n 0, 1) := by decide +kernel
theorem d_T_isInGap_11 : decode b_T_isInGap 11 = .ok (.iconst 1, 1) := by decide +kernel
theorem d_T_isInGap_12 : decode b_T_isInGap 12 = .ok (.invokevirtual 75, 3) := by decide +kernel
theorem d_T_isInGap_15 : decode b_T_isInGap 15 = .ok (.if_icmp .gt 7, 3) := by decide +kernel
theorem d_T_isInGap_18 : decode b_T_isInGap 18 = .ok (.iconst 1, 1) := by decide +kernel
theorem d_T_isInGap_19 : decode b_T_isInGap 19 = .ok (.goto 4, 3) := by decide +kernel
theorem d_T_isInGap_22 : decode b_T_isInGap 22 = .ok (.iconst 0, 1) := by decide +kernel
theorem d_T_isInGap_23 : decode b_T_isInGap 23 = .ok (.ireturn, 1) := by decide +kernel
theorem d_T_lowerEnd_0 : decode b_T_lowerEnd 0 = .ok (.iload_n 1, 1) := by decide +kernel
theorem d_T_lowerEnd_1 : decode b_T_lowerEnd 1 = .ok (.ifCond .ne 12, 3) := by decide +kernel
theorem d_T_lowerEnd_4 : decode b_T_lowerEnd 4 = .ok (.aload_n 0, 1) := by decide +kernel
theorem d_T_lowerEnd_5 : decode b_T_lowerEnd 5 = .ok (.iload_n 1, 1) := by decide +kernel
theorem d_T_lowerEnd_6 : decode b_T_lowerEnd 6 = .ok (.iload_n 2, 1) := by decide +kernel
theorem d_T_lowerEnd_7 : decode b_T_lowerEnd 7 = .ok (.invokevirtual 106, 3) := by decide +kernel
theorem d_T_lowerEnd_10 : decode b_T_lowerEnd 10 = .ok (.goto 16, 3) := by decide +kernel
theorem d_T_lowerEnd_13 : decode b_T_lowerEnd 13 = .ok (.aload_n 0, 1) := by decide +kernel
theorem d_T_lowerEnd_14 : decode b_T_lowerEnd 14 = .ok (.getfield 9, 3) := by decide +kernel
theorem d_T_lowerEnd_17 : decode b_T_lowerEnd 17 = .ok (.aload_n 0, 1) := by decide +kernel
theorem d_T_lowerEnd_18 : decode b_T_lowerEnd 18 = .ok (.iload_n 1, 1) := by decide +kernel
theorem d_T_lowerEnd_19 : decode b_T_lowerEnd 19 = .ok (.iload_n 2, 1) := by decide +kernel
theorem d_T_lowerEnd_20 : decode b_T_lowerEnd 20 = .ok (.iconst 1, 1) := by decide +kernel
theorem d_T_lowerEnd_21 : decode b_T_lowerEnd 21 = .ok (.iadd, 1) := by decide +kernel
theorem d_T_lowerEnd_22 : decode b_T_lowerEnd 22 = .ok (.invokevirtual 106, 3) := by decide +kernel
theorem d_T_lowerEnd_25 : decode b_T_lowerEnd 25 = .ok (.isub, 1) := by decide +kernel
theorem d_T_lowerEnd_26 : decode b_T_lowerEnd 26 = .ok (.ireturn, 1) := by decide +kernel
theorem d_T_startOfReading_0 : decode b_T_startOfReading 0 = .ok (.aload_n 0, 1) := by decide +kernel
theorem d_T_startOfReading_1 : decode b_T_startOfReading 1 = .ok (.iload_n 1, 1) := by decide +kernel
theorem d_T_startOfReading_2 : decode b_T_startOfReading 2 = .ok (.iload_n 2, 1) := by decide +kernel
theorem d_T_startOfReading_3 : decode b_T_startOfReading 3 = .ok (.invokevirtual 116, 3) := by decide +kernel
theorem d_T_startOfReading_6 : decode b_T_startOfReading 6 = .ok (.istore 4, 2) := by decide +kernel
theorem d_T_startOfReading_8 : decode b_T_startOfReading 8 = .ok (.iload_n 1, 1) := by decide +kernel
theorem d_T_startOfReading_9 : decode b_T_startOfReading 9 = .ok (.iload_n 3, 1) := by decide +kernel
theorem d_T_startOfReading_10 : decode b_T_startOfReading 10 = .ok (.if_icmp .ne 8, 3) := by decide +kernel
theorem d_T_startOfReading_13 : decode b_T_startOfReading 13 = .ok (.iload 4, 2) := by decide +kernel
theorem d_T_startOfReading_15 : decode b_T_startOfReading 15 = .ok (.goto 16, 3) := by decide +kernel
theorem d_T_startOfReading_18 : decode b_T_startOfReading 18 = .ok (.iload 4, 2) := by decide +kernel
theorem d_T_startOfReading_20 : decode b_T_startOfReading 20 = .ok (.aload_n 0, 1) := by decide +kernel
theorem d_T_startOfReading_21 : decode b_T_startOfReading 21 = .ok (.aload_n 0, 1) := by decide +kernel
theorem d_T_startOfReading_22 : decode b_T_startOfReading 22 = .ok (.iload_n 1, 1) := by decide +kernel
theorem d_T_startOfReading_23 : decode b_T_startOfReading 23 = .ok (.iload_n 2, 1) := by decide +kernel
theorem d_T_startOfReading_24 : decode b_T_startOfReading 24 = .ok (.invokevirtual 82, 3) := by decide +kernel
theorem d_T_startOfReading_27 : decode b_T_startOfReading 27 = .ok (.invokevirtual 113, 3) := by decide +kernel
theorem d_T_startOfReading_30 : decode b_T_startOfReading 30 = .ok (.iadd, 1) := by decide +kernel
theorem d_T_startOfReading_31 : decode b_T_startOfReading 31 = .ok (.ireturn, 1) := by decide +kernel
theorem d_T_travelToRead_0 : decode b_T_travelToRead 0 = .ok (.aload_n 0, 1) := by decide +kernel
theorem d_T_travelToRead_1 : decode b_T_travelToRead 1 = .ok (.iload_n 1, 1) := by decide +kernel
theorem d_T_travelToRead_2 : decode b_T_travelToRead 2 = .ok (.iload_n 2, 1) := by decide +kernel
theorem d_T_travelToRead_3 : decode b_T_travelToRead 3 = .ok (.iload_n 3, 1) := by decide +kernel
theorem d_T_travelToRead_4 : decode b_T_travelToRead 4 = .ok (.invokevirtual 89, 3) := by decide +kernel
theorem d_T_travelToRead_7 : decode b_T_travelToRead 7 = .ok (.aload_n 0, 1) := by decide +kernel
theorem d_T_travelToRead_8 : decode b_T_travelToRead 8 = .ok (.getfield 21, 3) := by decide +kernel
theorem d_T_travelToRead_11 : decode b_T_travelToRead 11 = .ok (.isub, 1) := by decide +kernel
theorem d_T_travelToRead_12 : decode b_T_travelToRead 12 = .ok (.invokestatic 102, 3) := by decide +kernel
theorem d_T_travelToRead_15 : decode b_T_travelToRead 15 = .ok (.aload_n 0, 1) := by decide +kernel
theorem d_T_travelToRead_16 : decode b_T_travelToRead 16 = .ok (.aload_n 0, 1) := by decide +kernel
theorem d_T_travelToRead_17 : decode b_T_travelToRead 17 = .ok (.iload_n 1, 1) := by decide +kernel
theorem d_T_travelToRead_18 : decode b_T_travelToRead 18 = .ok (.iload_n 2, 1) := by decide +kernel
theorem d_T_travelToRead_19 : decode b_T_travelToRead 19 = .ok (.invokevirtual 82, 3) := by decide +kernel
theorem d_T_travelToRead_22 : decode b_T_travelToRead 22 = .ok (.invokevirtual 113, 3) := by decide +kernel
theorem d_T_travelToRead_25 : decode b_T_travelToRead 25 = .ok (.iadd, 1) := by decide +kernel
theorem d_T_travelToRead_26 : decode b_T_travelToRead 26 = .ok (.ireturn, 1) := by decide +kernel
theorem d_T_rowWithData_0 : decode b_T_rowWithData 0 = .ok (.iconst 0, 1) := by decide +kernel
theorem d_T_rowWithData_1 : decode b_T_rowWithData 1 = .ok (.istore_n 3, 1) := by decide +kernel
theorem d_T_rowWithData_2 : decode b_T_rowWithData 2 = .ok (.iload_n 3, 1) := by decide +kernel
theorem d_T_rowWithData_3 : decode b_T_rowWithData 3 = .ok (.iconst 2, 1) := by decide +kernel
theorem d_T_rowWithData_4 : decode b_T_rowWithData 4 = .ok (.if_icmp .ge 78, 3) := by decide +kernel
theorem d_T_rowWithData_7 : decode b_T_rowWithData 7 = .ok (.iconst 0, 1) := by decide +kernel
theorem d_T_rowWithData_8 : decode b_T_rowWithData 8 = .ok (.istore 4, 2) := by decide +kernel
theorem d_T_rowWithData_10 : decode b_T_rowWithData 10 = .ok (.iload 4, 2) := by decide +kernel
theorem d_T_rowWithData_12 : decode b_T_rowWithData 12 = .ok (.aload_n 0, 1) := by decide +kernel
theorem d_T_rowWithData_13 : decode b_T_rowWithData 13 = .ok (.getfield 36, 3) := by decide +kernel
theorem d_T_rowWithData_16 : decode b_T_rowWithData 16 = .ok (.iload_n 3, 1) := by decide +kernel
theorem d_T_rowWithData_17 : decode b_T_rowWithData 17 = .ok (.iaload, 1) := by decide +kernel
theorem d_T_rowWithData_18 : decode b_T_rowWithData 18 = .ok (.if_icmp .ge 58, 3) := by decide +kernel
theorem d_T_rowWithData_21 : decode b_T_rowWithData 21 = .ok (.aload_n 0, 1) := by decide +kernel
theorem d_T_rowWithData_22 : decode b_T_rowWithData 22 = .ok (.iload_n 3, 1) := by decide +kernel
theorem d_T_rowWithData_23 : decode b_T_rowWithData 23 = .ok (.iload 4, 2) := by decide +kernel
theorem d_T_rowWithData_25 : decode b_T_rowWithData 25 = .ok (.invokevirtual 82, 3) := by decide +kernel
theorem d_T_rowWithData_28 : decode b_T_rowWithData 28 = .ok (.istore 5, 2) := by decide +kernel
theorem d_T_rowWithData_30 : decode b_T_rowWithData 30 = .ok (.aload_n 0, 1) := by decide +kernel
theorem d_T_rowWithData_31 : decode b_T_rowWithData 31 = .ok (.iload_n 3, 1) := by decide +kernel
theorem d_T_rowWithData_32 : decode b_T_rowWithData 32 = .ok (.iload 4, 2) := by decide +kernel
theorem d_T_rowWithData_34 : decode b_T_rowWithData 34 = .ok (.invokevirtual 116, 3) := by decide +kernel
theorem d_T_rowWithData_37 : decode b_T_rowWithData 37 = .ok (.aload_n 0, 1) := by decide +kernel
theorem d_T_rowWithData_38 : decode b_T_rowWithData 38 = .ok (.getfield 46, 3) := by decide +kernel
theorem d_T_rowWithData_41 : decode b_T_rowWithData 41 = .ok (.iload 5, 2) := by decide +kernel
theorem d_T_rowWithData_43 : decode b_T_rowWithData 43 = .ok (.iaload, 1) := by decide +kernel
theorem d_T_rowWithData_44 : decode b_T_rowWithData 44 = .ok (.iadd, 1) := by decide +kernel
theorem d_T_rowWithData_45 : decode b_T_rowWithData 45 = .ok (.istore 6, 2) := by decide +kernel
theorem d_T_rowWithData_47 : decode b_T_rowWithData 47 = .ok (.iload_n 1, 1) := by decide +kernel
theorem d_T_rowWithData_48 : decode b_T_rowWithData 48 = .ok (.iload 6, 2) := by decide +kernel
theorem d_T_rowWithData_50 : decode b_T_rowWithData 50 = .ok (.if_icmp .lt 20, 3) := by decide +kernel
theorem d_T_rowWithData_53 : decode b_T_rowWithData 53 = .ok (.iload_n 2, 1) := by decide +kernel
theorem d_T_rowWithData_54 : decode b_T_rowWithData 54 = .ok (.iload 6, 2) := by decide +kernel
theorem d_T_rowWithData_56 : decode b_T_rowWithData 56 = .ok (.aload_n 0, 1) := by decide +kernel
theorem d_T_rowWithData_57 : decode b_T_rowWithData 57 = .ok (.getfield 40, 3) := by decide +kernel
theorem d_T_rowWithData_60 : decode b_T_rowWithData 60 = .ok (.iload 5, 2) := by decide +kernel
theorem d_T_rowWithData_62 : decode b_T_rowWithData 62 = .ok (.iaload, 1) := by decide +kernel
theorem d_T_rowWithData_63 : decode b_T_rowWithData 63 = .ok (.iadd, 1) := by decide +kernel
theorem d_T_rowWithData_64 : decode b_T_rowWithData 64 = .ok (.if_icmp .gt 6, 3) := by decide +kernel
theorem d_T_rowWithData_67 : decode b_T_rowWithData 67 = .ok (.iload 5, 2) := by decide +kernel
theorem d_T_rowWithData_69 : decode b_T_rowWithData 69 = .ok (.ireturn, 1) := by decide +kernel
theorem d_T_rowWithData_70 : decode b_T_rowWithData 70 = .ok (.iinc 4 1, 3) := by decide +kernel
theorem d_T_rowWithData_73 : decode b_T_rowWithData 73 = .ok (.goto (-63), 3) := by decide +kernel
theorem d_T_rowWithData_76 : decode b_T_rowWithData 76 = .ok (.iinc 3 1, 3) := by decide +kernel
theorem d_T_rowWithData_79 : decode b_T_rowWithData 79 = .ok (.goto (-77), 3) := by decide +kernel
theorem d_T_rowWithData_82 : decode b_T_rowWithData 82 = .ok (.iconst (-1), 1) := by decide +kernel
theorem d_T_rowWithData_83 : decode b_T_rowWithData 83 = .ok (.ireturn, 1) := by decide +kernel
end
section
theorem d_E_init_0 : decode b_E_init 0 = .ok (.aload_n 0, 1) := by decide +kernel
theorem d_E_init_1 : decode b_E_init 1 = .ok (.invokespecial 1, 3) := by decide +kernel
theorem d_E_init_4 : decode b_E_init 4 = .ok (.aload_n 0, 1) := by decide +kernel
theorem d_E_init_5 : decode b_E_init 5 = .ok (.new 7, 3) := by decide +kernel
theorem d_E_init_8 : decode b_E_init 8 = .ok (.dup, 1) := by decide +kernel
theorem d_E_init_9 : decode b_E_init 9 = .ok (.invokespecial 9, 3) := by decide +kernel
theorem d_E_init_12 : decode b_E_init 12 = .ok (.putfield 10, 3) := by decide +kernel
theorem d_E_init_15 : decode b_E_init 15 = .ok (.aload_n 0, 1) := by decide +kernel
theorem d_E_init_16 : decode b_E_init 16 = .ok (.new 7, 3) := by decide +kernel
theorem d_E_init_19 : decode b_E_init 19 = .ok (.dup, 1) := by decide +kernel
theorem d_E_init_20 : decode b_E_init 20 = .ok (.invokespecial 9, 3) := by decide +kernel
theorem d_E_init_23 : decode b_E_init 23 = .ok (.putfield 16, 3) := by decide +kernel
theorem d_E_init_26 : decode b_E_init 26 = .ok (.aload_n 0, 1) := by decide +kernel
theorem d_E_init_27 : decode b_E_init 27 = .ok (.bipush 6, 2) := by decide +kernel
theorem d_E_init_29 : decode b_E_init 29 = .ok (.anewarray 7, 3) := by decide +kernel
theorem d_E_init_32 : decode b_E_init 32 = .ok (.putfield 19, 3) := by decide +kernel
theorem d_E_init_35 : decode b_E_init 35 = .ok (.iconst 0, 1) := by decide +kernel
theorem d_E_init_36 : decode b_E_init 36 = .ok (.istore_n 1, 1) := by decide +kernel
theorem d_E_init_37 : decode b_E_init 37 = .ok (.iload_n 1, 1) := by decide +kernel
theorem d_E_init_38 : decode b_E_init 38 = .ok (.bipush 6, 2) := by decide +kernel
theorem d_E_init_40 : decode b_E_init 40 = .ok (.if_icmp .ge 22, 3) := by decide +kernel
theorem d_E_init_43 : decode b_E_init 43 = .ok (.aload_n 0, 1) := by decide +kernel
theorem d_E_init_44 : decode b_E_init 44 = .ok (.getfield 19, 3) := by decide +kernel
theorem d_E_init_47 : decode b_E_init 47 = .ok (.iload_n 1, 1) := by decide +kernel
theorem d_E_init_48 : decode b_E_init 48 = .ok (.new 7, 3) := by decide +kernel
theorem d_E_init_51 : decode b_E_init 51 = .ok (.dup, 1) := by decide +kernel
theorem d_E_init_52 : decode b_E_init 52 = .ok (.invokespecial 9, 3) := by decide +kernel
theorem d_E_init_55 : decode b_E_init 55 = .ok (.aastore, 1) := by decide +kernel
theorem d_E_init_56 : decode b_E_init 56 = .ok (.iinc 1 1, 3) := by decide +kernel
theorem d_E_init_59 : decode b_E_init 59 = .ok (.goto (-22), 3) := by decide +kernel
theorem d_E_init_62 : decode b_E_init 62 = .ok (.aload_n 0, 1) := by decide +kernel
theorem d_E_init_63 : decode b_E_init 63 = .ok (.iconst 2, 1) := by decide +kernel
theorem d_E_init_64 : decode b_E_init 64 = .ok (.anewarray 7, 3) := by decide +kernel
theorem d_E_init_67 : decode b_E_init 67 = .ok (.putfield 23, 3) := by decide +kernel
theorem d_E_init_70 : decode b_E_init 70 = .ok (.iconst 0, 1) := by decide +kernel
theorem d_E_init_71 : decode b_E_init 71 = .ok (.istore_n 1, 1) := by decide +kernel
theorem d_E_init_72 : decode b_E_init 72 = .ok (.iload_n 1, 1) := by decide +kernel
theorem d_E_init_73 : decode b_E_init 73 = .ok (.iconst 2, 1) := by decide +kernel
theorem d_E_init_74 : decode b_E_init 74 = .ok (.if_icmp .ge 22, 3) := by decide +kernel
theorem d_E_init_77 : decode b_E_init 77 = .ok (.aload_n 0, 1) := by decide +kernel
theorem d_E_init_78 : decode b_E_init 78 = .ok (.getfield 23, 3) := by decide +kernel
theorem d_E_init_81 : decode b_E_init 81 = .ok (.iload_n 1, 1) := by decide +kernel
theorem d_E_init_82 : decode b_E_init 82 = .ok (.new 7, 3) := by decide +kernel
theorem d_E_init_85 : decode b_E_init 85 = .ok (.dup, 1) := by decide +kernel
theorem d_E_init_86 : decode b_E_init 86 = .ok (.invokespecial 9, 3) := by decide +kernel
theorem d_E_init_89 : decode b_E_init 89 = .ok (.aastore, 1) := by decide +kernel
theorem d_E_init_90 : decode b_E_init 90 = .ok (.iinc 1 1, 3) := by decide +kernel
theorem d_E_init_93 : decode b_E_init 93 = .ok (.goto (-21), 3) := by decide +kernel
theorem d_E_init_96 : decode b_E_init 96 = .ok (.aload_n 0, 1) := by decide +kernel
theorem d_E_init_97 : decode b_E_init 97 = .ok (.iconst 2, 1) := by decide +kernel
theorem d_E_init_98 : decode b_E_init 98 = .ok (.newarray .boolean, 2) := by decide +kernel
theorem d_E_init_100 : decode b_E_init 100 = .ok (.putfield 26, 3) := by decide +kernel
theorem d_E_init_103 : decode b_E_init 103 = .ok (.aload_n 0, 1) := by decide +kernel
theorem d_E_init_104 : decode b_E_init 104 = .ok (.new 30, 3) := by decide +kernel
theorem d_E_init_107 : decode b_E_init 107 = .ok (.dup, 1) := by decide +kernel
theorem d_E_init_108 : decode b_E_init 108 = .ok (.invokespecial 32, 3) := by decide +kernel
theorem d_E_init_111 : decode b_E_init 111 = .ok (.putfield 33, 3) := by decide +kernel
theorem d_E_init_114 : decode b_E_init 114 = .ok (.aload_n 0, 1) := by decide +kernel
theorem d_E_init_115 : decode b_E_init 115 = .ok (.new 37, 3) := by decide +kernel
theorem d_E_init_118 : decode b_E_init 118 = .ok (.dup, 1) := by decide +kernel
theorem d_E_init_119 : decode b_E_init 119 = .ok (.aload_n 0, 1) := by decide +kernel
theorem d_E_init_120 : decode b_E_init 120 = .ok (.getfield 33, 3) := by decide +kernel
theorem d_E_init_123 : decode b_E_init 123 = .ok (.invokespecial 39, 3) := by decide +kernel
theorem d_E_init_126 : decode b_E_init 126 = .ok (.putfield 42, 3) := by decide +kernel
theorem d_E_init_129 : decode b_E_init 129 = .ok (.aload_n 0, 1) := by decide +kernel
theorem d_E_init_130 : decode b_E_init 130 = .ok (.iconst 0, 1) := by decide +kernel
theorem d_E_init_131 : decode b_E_init 131 = .ok (.putfield 46, 3) := by decide +kernel
theorem d_E_init_134 : decode b_E_init 134 = .ok (.return_, 1) := by decide +kernel
theorem d_E_length_0 : decode b_E_length 0 = .ok (.aload_n 0, 1) := by decide +kernel
theorem d_E_length_1 : decode b_E_length 1 = .ok (.getfield 16, 3) := by decide +kernel
theorem d_E_length_4 : decode b_E_length 4 = .ok (.aload_n 0, 1) := by decide +kernel
theorem d_E_length_5 : decode b_E_length 5 = .ok (.getfield 10, 3) := by decide +kernel
theorem d_E_length_8 : decode b_E_length 8 = .ok (.invokevirtual 50, 3) := by decide +kernel
theorem d_E_length_11 : decode b_E_length 11 = .ok (.aload_n 0, 1) := by decide +kernel
theorem d_E_length_12 : decode b_E_length 12 = .ok (.aload_n 0, 1) := by decide +kernel
theorem d_E_length_13 : decode b_E_length 13 = .ok (.getfield 10, 3) := by decide +kernel
theorem d_E_length_16 : decode b_E_length 16 = .ok (.iload_n 1, 1) := by decide +kernel
theorem d_E_length_17 : decode b_E_length 17 = .ok (.invokevirtual 54, 3) := by decide +kernel
theorem d_E_length_20 : decode b_E_length 20 = .ok (.invokevirtual 58, 3) := by decide +kernel
theorem d_E_length_23 : decode b_E_length 23 = .ok (.ireturn, 1) := by decide +kernel
theorem d_E_tune_0 : decode b_E_tune 0 = .ok (.aload_n 0, 1) := by decide +kernel
theorem d_E_tune_1 : decode b_E_tune 1 = .ok (.getfield 16, 3) := by decide +kernel
theorem d_E_tune_4 : decode b_E_tune 4 = .ok (.aload_n 0, 1) := by decide +kernel
theorem d_E_tune_5 : decode b_E_tune 5 = .ok (.getfield 10, 3) := by decide +kernel
theorem d_E_tune_8 : decode b_E_tune 8 = .ok (.invokevirtual 50, 3) := by decide +kernel
theorem d_E_tune_11 : decode b_E_tune 11 = .ok (.aload_n 0, 1) := by decide +kernel
theorem d_E_tune_12 : decode b_E_tune 12 = .ok (.aload_n 0, 1) := by decide +kernel
theorem d_E_tune_13 : decode b_E_tune 13 = .ok (.getfield 10, 3) := by decide +kernel
theorem d_E_tune_16 : decode b_E_tune 16 = .ok (.iload_n 1, 1) := by decide +kernel
theorem d_E_tune_17 : decode b_E_tune 17 = .ok (.iload_n 2, 1) := by decide +kernel
theorem d_E_tune_18 : decode b_E_tune 18 = .ok (.invokevirtual 61, 3) := by decide +kernel
theorem d_E_tune_21 : decode b_E_tune 21 = .ok (.invokevirtual 58, 3) := by decide +kernel
theorem d_E_tune_24 : decode b_E_tune 24 = .ok (.ireturn, 1) := by decide +kernel
theorem d_E_write_0 : decode b_E_write 0 = .ok (.aload_n 0, 1) := by decide +kernel
theorem d_E_write_1 : decode b_E_write 1 = .ok (.getfield 16, 3) := by decide +kernel
theorem d_E_write_4 : decode b_E_write 4 = .ok (.aload_n 0, 1) := by decide +kernel
theorem d_E_write_5 : decode b_E_write 5 = .ok (.getfield 10, 3) := by decide +kernel
theorem d_E_write_8 : decode b_E_write 8 = .ok (.invokevirtual 50, 3) := by decide +kernel
theorem d_E_write_11 : decode b_E_write 11 = .ok (.aload_n 0, 1) := by decide +kernel
theorem d_E_write_12 : decode b_E_write 12 = .ok (.aload_n 0, 1) := by decide +kernel
theorem d_E_write_13 : decode b_E_write 13 = .ok (.getfield 10, 3) := by decide +kernel
theorem d_E_write_16 : decode b_E_write 16 = .ok (.iload_n 1, 1) := by decide +kernel
theorem d_E_write_17 : decode b_E_write 17 = .ok (.iload_n 2, 1) := by decide +kernel
theorem d_E_write_18 : decode b_E_write 18 = .ok (.iload_n 3, 1) := by decide +kernel
theorem d_E_write_19 : decode b_E_write 19 = .ok (.invokevirtual 65, 3) := by decide +kernel
theorem d_E_write_22 : decode b_E_write 22 = .ok (.invokevirtual 58, 3) := by decide +kernel
theorem d_E_write_25 : decode b_E_write 25 = .ok (.ireturn, 1) := by decide +kernel
theorem d_E_cut_0 : decode b_E_cut 0 = .ok (.aload_n 0, 1) := by decide +kernel
theorem d_E_cut_1 : decode b_E_cut 1 = .ok (.getfield 16, 3) := by decide +kernel
theorem d_E_cut_4 : decode b_E_cut 4 = .ok (.aload_n 0, 1) := by decide +kernel
theorem d_E_cut_5 : decode b_E_cut 5 = .ok (.getfield 10, 3) := by decide +kernel
theorem d_E_cut_8 : decode b_E_cut 8 = .ok (.invokevirtual 50, 3) := by decide +kernel
theorem d_E_cut_11 : decode b_E_cut 11 = .ok (.aload_n 0, 1) := by decide +kernel
theorem d_E_cut_12 : decode b_E_cut 12 = .ok (.aload_n 0, 1) := by decide +kernel
theorem d_E_cut_13 : decode b_E_cut 13 = .ok (.getfield 10, 3) := by decide +kernel
theorem d_E_cut_16 : decode b_E_cut 16 = .ok (.iload_n 1, 1) := by decide +kernel
theorem d_E_cut_17 : decode b_E_cut 17 = .ok (.iload_n 2, 1) := by decide +kernel
theorem d_E_cut_18 : decode b_E_cut 18 = .ok (.invokevirtual 69, 3) := by decide +kernel
theorem d_E_cut_21 : decode b_E_cut 21 = .ok (.invokevirtual 58, 3) := by decide +kernel
theorem d_E_cut_24 : decode b_E_cut 24 = .ok (.ireturn, 1) := by decide +kernel
theorem d_E_move_0 : decode b_E_move 0 = .ok (.aload_n 0, 1) := by decide +kernel
theorem d_E_move_1 : decode b_E_move 1 = .ok (.getfield 16, 3) := by decide +kernel
theorem d_E_move_4 : decode b_E_move 4 = .ok (.aload_n 0, 1) := by decide +kernel
theorem d_E_move_5 : decode b_E_move 5 = .ok (.getfield 10, 3) := by decide +kernel
theorem d_E_move_8 : decode b_E_move 8 = .ok (.invokevirtual 50, 3) := by decide +kernel
theorem d_E_move_11 : decode b_E_move 11 = .ok (.aload_n 0, 1) := by decide +kernel
theorem d_E_move_12 : decode b_E_move 12 = .ok (.aload_n 0, 1) := by decide +kernel
theorem d_E_move_13 : decode b_E_move 13 = .ok (.getfield 10, 3) := by decide +kernel
theorem d_E_move_16 : decode b_E_move 16 = .ok (.iload_n 1, 1) := by decide +kernel
theorem d_E_move_17 : decode b_E_move 17 = .ok (.invokevirtual 72, 3) := by decide +kernel
theorem d_E_move_20 : decode b_E_move 20 = .ok (.invokevirtual 58, 3) := by decide +kernel
theorem d_E_move_23 : decode b_E_move 23 = .ok (.ireturn, 1) := by decide +kernel
theorem d_E_rewind_0 : decode b_E_rewind 0 = .ok (.aload_n 0, 1) := by decide +kernel
theorem d_E_rewind_1 : decode b_E_rewind 1 = .ok (.getfield 16, 3) := by decide +kernel
theorem d_E_rewind_4 : decode b_E_rewind 4 = .ok (.aload_n 0, 1) := by decide +kernel
theorem d_E_rewind_5 : decode b_E_rewind 5 = .ok (.getfield 10, 3) := by decide +kernel
theorem d_E_rewind_8 : decode b_E_rewind 8 = .ok (.invokevirtual 50, 3) := by decide +kernel
theorem d_E_rewind_11 : decode b_E_rewind 11 = .ok (.aload_n 0, 1) := by decide +kernel
theorem d_E_rewind_12 : decode b_E_rewind 12 = .ok (.aload_n 0, 1) := by decide +kernel
theorem d_E_rewind_13 : decode b_E_rewind 13 = .ok (.getfield 10, 3) := by decide +kernel
theorem d_E_rewind_16 : decode b_E_rewind 16 = .ok (.invokevirtual 75, 3) := by decide +kernel
theorem d_E_rewind_19 : decode b_E_rewind 19 = .ok (.invokevirtual 58, 3) := by decide +kernel
theorem d_E_rewind_22 : decode b_E_rewind 22 = .ok (.ireturn, 1) := by decide +kernel
theorem d_E_read_0 : decode b_E_read 0 = .ok (.aload_n 0, 1) := by decide +kernel
theorem d_E_read_1 : decode b_E_read 1 = .ok (.getfield 16, 3) := by decide +kernel
theorem d_E_read_4 : decode b_E_read 4 = .ok (.aload_n 0, 1) := by decide +kernel
theorem d_E_read_5 : decode b_E_read 5 = .ok (.getfield 10, 3) := by decide +kernel
theorem d_E_read_8 : decode b_E_read 8 = .ok (.invokevirtual 50, 3) := by decide +kernel
theorem d_E_read_11 : decode b_E_read 11 = .ok (.aload_n 0, 1) := by decide +kernel
theorem d_E_read_12 : decode b_E_read 12 = .ok (.aload_n 0, 1) := by decide +kernel
theorem d_E_read_13 : decode b_E_read 13 = .ok (.getfield 10, 3) := by decide +kernel
theorem d_E_read_16 : decode b_E_read 16 = .ok (.iload_n 1, 1) := by decide +kernel
theorem d_E_read_17 : decode b_E_read 17 = .ok (.iload_n 2, 1) := by decide +kernel
theorem d_E_read_18 : decode b_E_read 18 = .ok (.iload_n 3, 1) := by decide +kernel
theorem d_E_read_19 : decode b_E_read 19 = .ok (.invokevirtual 79, 3) := by decide +kernel
theorem d_E_read_22 : decode b_E_read 22 = .ok (.invokevirtual 58, 3) := by decide +kernel
theorem d_E_read_25 : decode b_E_read 25 = .ok (.ireturn, 1) := by decide +kernel
theorem d_E_splice_0 : decode b_E_splice 0 = .ok (.aload_n 0, 1) := by decide +kernel
theorem d_E_splice_1 : decode b_E_splice 1 = .ok (.getfield 16, 3) := by decide +kernel
theorem d_E_splice_4 : decode b_E_splice 4 = .ok (.aload_n 0, 1) := by decide +kernel
theorem d_E_splice_5 : decode b_E_splice 5 = .ok (.getfield 10, 3) := by decide +kernel
theorem d_E_splice_8 : decode b_E_splice 8 = .ok (.invokevirtual 50, 3) := by decide +kernel
theorem d_E_splice_11 : decode b_E_splice 11 = .ok (.aload_n 0, 1) := by decide +kernel
theorem d_E_splice_12 : decode b_E_splice 12 = .ok (.aload_n 0, 1) := by decide +kernel
theorem d_E_splice_13 : decode b_E_splice 13 = .ok (.getfield 10, 3) := by decide +kernel
theorem d_E_splice_16 : decode b_E_splice 16 = .ok (.iload_n 1, 1) := by decide +kernel
theorem d_E_splice_17 : decode b_E_splice 17 = .ok (.iload_n 2, 1) := by decide +kernel
theorem d_E_splice_18 : decode b_E_splice 18 = .ok (.invokevirtual 82, 3) := by decide +kernel
theorem d_E_splice_21 : decode b_E_splice 21 = .ok (.invokevirtual 58, 3) := by decide +kernel
theorem d_E_splice_24 : decode b_E_splice 24 = .ok (.ireturn, 1) := by decide +kernel
theorem d_E_ofFile_0 : decode b_E_ofFile 0 = .ok (.aload_n 0, 1) := by decide +kernel
theorem d_E_ofFile_1 : decode b_E_ofFile 1 = .ok (.getfield 10, 3) := by decide +kernel
theorem d_E_ofFile_4 : decode b_E_ofFile 4 = .ok (.iload_n 1, 1) := by decide +kernel
theorem d_E_ofFile_5 : decode b_E_ofFile 5 = .ok (.iload_n 2, 1) := by decide +kernel
theorem d_E_ofFile_6 : decode b_E_ofFile 6 = .ok (.invokevirtual 85, 3) := by decide +kernel
theorem d_E_ofFile_9 : decode b_E_ofFile 9 = .ok (.ireturn, 1) := by decide +kernel
theorem d_E_ofBlock_0 : decode b_E_ofBlock 0 = .ok (.aload_n 0, 1) := by decide +kernel
theorem d_E_ofBlock_1 : decode b_E_ofBlock 1 = .ok (.getfield 10, 3) := by decide +kernel
theorem d_E_ofBlock_4 : decode b_E_ofBlock 4 = .ok (.iload_n 1, 1) := by decide +kernel
theorem d_E_ofBlock_5 : decode b_E_ofBlock 5 = .ok (.iload_n 2, 1) := by decide +kernel
theorem d_E_ofBlock_6 : decode b_E_ofBlock 6 = .ok (.iload_n 3, 1) := by decide +kernel
theorem d_E_ofBlock_7 : decode b_E_ofBlock 7 = .ok (.invokevirtual 88, 3) := by decide +kernel
theorem d_E_ofBlock_10 : decode b_E_ofBlock 10 = .ok (.ireturn, 1) := by decide +kernel
theorem d_E_at_0 : decode b_E_at 0 = .ok (.aload_n 0, 1) := by decide +kernel
theorem d_E_at_1 : decode b_E_at 1 = .ok (.getfield 10, 3) := by decide +kernel
theorem d_E_at_4 : decode b_E_at 4 = .ok (.iload_n 1, 1) := by decide +kernel
theorem d_E_at_5 : decode b_E_at 5 = .ok (.invokevirtual 91, 3) := by decide +kernel
theorem d_E_at_8 : decode b_E_at 8 = .ok (.ireturn, 1) := by decide +kernel
theorem d_E_count_0 : decode b_E_count 0 = .ok (.iload_n 1, 1) := by decide +kernel
theorem d_E_count_1 : decode b_E_count 1 = .ok (.bipush 10, 2) := by decide +kernel
theorem d_E_count_3 : decode b_E_count 3 = .ok (.if_icmp .ne 11, 3) := by decide +kernel
theorem d_E_count_6 : decode b_E_count 6 = .ok (.aload_n 0, 1) := by decide +kernel
theorem d_E_count_7 : decode b_E_count 7 = .ok (.getfield 33, 3) := by decide +kernel
theorem d_E_count_10 : decode b_E_count 10 = .ok (.invokevirtual 94, 3) := by decide +kernel
theorem d_E_count_13 : decode b_E_count 13 = .ok (.ireturn, 1) := by decide +kernel
theorem d_E_count_14 : decode b_E_count 14 = .ok (.iload_n 1, 1) := by decide +kernel
theorem d_E_count_15 : decode b_E_count 15 = .ok (.bipush 11, 2) := by decide +kernel
theorem d_E_count_17 : decode b_E_count 17 = .ok (.if_icmp .ne 8, 3) := by decide +kernel
theorem d_E_count_20 : decode b_E_count 20 = .ok (.aload_n 0, 1) := by decide +kernel
theorem d_E_count_21 : decode b_E_count 21 = .ok (.getfield 46, 3) := by decide +kernel
theorem d_E_count_24 : decode b_E_count 24 = .ok (.ireturn, 1) := by decide +kernel
theorem d_E_count_25 : decode b_E_count 25 = .ok (.aload_n 0, 1) := by decide +kernel
theorem d_E_count_26 : decode b_E_count 26 = .ok (.getfield 10, 3) := by decide +kernel
theorem d_E_count_29 : decode b_E_count 29 = .ok (.iload_n 1, 1) := by decide +kernel
theorem d_E_count_30 : decode b_E_count 30 = .ok (.invokevirtual 97, 3) := by decide +kernel
theorem d_E_count_33 : decode b_E_count 33 = .ok (.ireturn, 1) := by decide +kernel
theorem d_E_fits_0 : decode b_E_fits 0 = .ok (.aload_n 0, 1) := by decide +kernel
theorem d_E_fits_1 : decode b_E_fits 1 = .ok (.getfield 10, 3) := by decide +kernel
theorem d_E_fits_4 : decode b_E_fits 4 = .ok (.iload_n 1, 1) := by decide +kernel
theorem d_E_fits_5 : decode b_E_fits 5 = .ok (.invokevirtual 100, 3) := by decide +kernel
theorem d_E_fits_8 : decode b_E_fits 8 = .ok (.ireturn, 1) := by decide +kernel
theorem d_E_rooms_0 : decode b_E_rooms 0 = .ok (.aload_n 0, 1) := by decide +kernel
theorem d_E_rooms_1 : decode b_E_rooms 1 = .ok (.getfield 10, 3) := by decide +kernel
theorem d_E_rooms_4 : decode b_E_rooms 4 = .ok (.iload_n 1, 1) := by decide +kernel
theorem d_E_rooms_5 : decode b_E_rooms 5 = .ok (.invokevirtual 103, 3) := by decide +kernel
theorem d_E_rooms_8 : decode b_E_rooms 8 = .ok (.ireturn, 1) := by decide +kernel
theorem d_E_nearest_0 : decode b_E_nearest 0 = .ok (.aload_n 0, 1) := by decide +kernel
theorem d_E_nearest_1 : decode b_E_nearest 1 = .ok (.getfield 10, 3) := by decide +kernel
theorem d_E_nearest_4 : decode b_E_nearest 4 = .ok (.iload_n 1, 1) := by decide +kernel
theorem d_E_nearest_5 : decode b_E_nearest 5 = .ok (.invokevirtual 106, 3) := by decide +kernel
theorem d_E_nearest_8 : decode b_E_nearest 8 = .ok (.ireturn, 1) := by decide +kernel
theorem d_E_put_0 : decode b_E_put 0 = .ok (.aload_n 0, 1) := by decide +kernel
theorem d_E_put_1 : decode b_E_put 1 = .ok (.getfield 33, 3) := by decide +kernel
theorem d_E_put_4 : decode b_E_put 4 = .ok (.lload_n 1, 1) := by decide +kernel
theorem d_E_put_5 : decode b_E_put 5 = .ok (.invokevirtual 109, 3) := by decide +kernel
theorem d_E_put_8 : decode b_E_put 8 = .ok (.ireturn, 1) := by decide +kernel
theorem d_E_wipe_0 : decode b_E_wipe 0 = .ok (.aload_n 0, 1) := by decide +kernel
theorem d_E_wipe_1 : decode b_E_wipe 1 = .ok (.getfield 33, 3) := by decide +kernel
theorem d_E_wipe_4 : decode b_E_wipe 4 = .ok (.invokevirtual 113, 3) := by decide +kernel
theorem d_E_wipe_7 : decode b_E_wipe 7 = .ok (.ireturn, 1) := by decide +kernel
theorem d_E_fault_0 : decode b_E_fault 0 = .ok (.aload_n 0, 1) := by decide +kernel
theorem d_E_fault_1 : decode b_E_fault 1 = .ok (.getfield 42, 3) := by decide +kernel
theorem d_E_fault_4 : decode b_E_fault 4 = .ok (.invokevirtual 116, 3) := by decide +kernel
theorem d_E_fault_7 : decode b_E_fault 7 = .ok (.ireturn, 1) := by decide +kernel
theorem d_E_carryOut_0 : decode b_E_carryOut 0 = .ok (.aload_n 0, 1) := by decide +kernel
theorem d_E_carryOut_1 : decode b_E_carryOut 1 = .ok (.getfield 42, 3) := by decide +kernel
theorem d_E_carryOut_4 : decode b_E_carryOut 4 = .ok (.invokevirtual 116, 3) := by decide +kernel
theorem d_E_carryOut_7 : decode b_E_carryOut 7 = .ok (.bipush (-6), 2) := by decide +kernel
theorem d_E_carryOut_9 : decode b_E_carryOut 9 = .ok (.if_icmp .eq 6, 3) := by decide +kernel
theorem d_E_carryOut_12 : decode b_E_carryOut 12 = .ok (.bipush (-3), 2) := by decide +kernel
theorem d_E_carryOut_14 : decode b_E_carryOut 14 = .ok (.ireturn, 1) := by decide +kernel
theorem d_E_carryOut_15 : decode b_E_carryOut 15 = .ok (.aload_n 0, 1) := by decide +kernel
theorem d_E_carryOut_16 : decode b_E_carryOut 16 = .ok (.getfield 16, 3) := by decide +kernel
theorem d_E_carryOut_19 : decode b_E_carryOut 19 = .ok (.aload_n 0, 1) := by decide +kernel
theorem d_E_carryOut_20 : decode b_E_carryOut 20 = .ok (.getfield 10, 3) := by decide +kernel
theorem d_E_carryOut_23 : decode b_E_carryOut 23 = .ok (.invokevirtual 50, 3) := by decide +kernel
theorem d_E_carryOut_26 : decode b_E_carryOut 26 = .ok (.aload_n 0, 1) := by decide +kernel
theorem d_E_carryOut_27 : decode b_E_carryOut 27 = .ok (.invokevirtual 119, 3) := by decide +kernel
theorem d_E_carryOut_30 : decode b_E_carryOut 30 = .ok (.istore_n 1, 1) := by decide +kernel
theorem d_E_carryOut_31 : decode b_E_carryOut 31 = .ok (.aload_n 0, 1) := by decide +kernel
theorem d_E_carryOut_32 : decode b_E_carryOut 32 = .ok (.getfield 33, 3) := by decide +kernel
theorem d_E_carryOut_35 : decode b_E_carryOut 35 = .ok (.invokevirtual 113, 3) := by decide +kernel
theorem d_E_carryOut_38 : decode b_E_carryOut 38 = .ok (.pop, 1) := by decide +kernel
theorem d_E_carryOut_39 : decode b_E_carryOut 39 = .ok (.aload_n 0, 1) := by decide +kernel
theorem d_E_carryOut_40 : decode b_E_carryOut 40 = .ok (.iload_n 1, 1) := by decide +kernel
theorem d_E_carryOut_41 : decode b_E_carryOut 41 = .ok (.invokevirtual 58, 3) := by decide +kernel
theorem d_E_carryOut_44 : decode b_E_carryOut 44 = .ok (.ireturn, 1) := by decide +kernel
theorem d_E_carryOutOrders_0 : decode b_E_carryOutOrders 0 = .ok (.aload_n 0, 1) := by decide +kernel
theorem d_E_carryOutOrders_1 : decode b_E_carryOutOrders 1 = .ok (.getfield 42, 3) := by decide +kernel
theorem d_E_carryOutOrders_4 : decode b_E_carryOutOrders 4 = .ok (.invokevirtual 122, 3) := by decide +kernel
theorem d_E_carryOutOrders_7 : decode b_E_carryOutOrders 7 = .ok (.iconst 0, 1) := by decide +kernel
theorem d_E_carryOutOrders_8 : decode b_E_carryOutOrders 8 = .ok (.istore_n 1, 1) := by decide +kernel
theorem d_E_carryOutOrders_9 : decode b_E_carryOutOrders 9 = .ok (.iload_n 1, 1) := by decide +kernel
theorem d_E_carryOutOrders_10 : decode b_E_carryOutOrders 10 = .ok (.bipush 80, 2) := by decide +kernel
theorem d_E_carryOutOrders_12 : decode b_E_carryOutOrders 12 = .ok (.if_icmp .ge 44, 3) := by decide +kernel
theorem d_E_carryOutOrders_15 : decode b_E_carryOutOrders 15 = .ok (.aload_n 0, 1) := by decide +kernel
theorem d_E_carryOutOrders_16 : decode b_E_carryOutOrders 16 = .ok (.getfield 42, 3) := by decide +kernel
theorem d_E_carryOutOrders_19 : decode b_E_carryOutOrders 19 = .ok (.invokevirtual 125, 3) := by decide +kernel
theorem d_E_carryOutOrders_22 : decode b_E_carryOutOrders 22 = .ok (.ifCond .ne 5, 3) := by decide +kernel
theorem d_E_carryOutOrders_25 : decode b_E_carryOutOrders 25 = .ok (.iload_n 1, 1) := by decide +kernel
theorem d_E_carryOutOrders_26 : decode b_E_carryOutOrders 26 = .ok (.ireturn, 1) := by decide +kernel
theorem d_E_carryOutOrders_27 : decode b_E_carryOutOrders 27 = .ok (.aload_n 0, 1) := by decide +kernel
theorem d_E_carryOutOrders_28 : decode b_E_carryOutOrders 28 = .ok (.getfield 42, 3) := by decide +kernel
theorem d_E_carryOutOrders_31 : decode b_E_carryOutOrders 31 = .ok (.invokevirtual 129, 3) := by decide +kernel
theorem d_E_carryOutOrders_34 : decode b_E_carryOutOrders 34 = .ok (.aload_n 0, 1) := by decide +kernel
theorem d_E_carryOutOrders_35 : decode b_E_carryOutOrders 35 = .ok (.getfield 42, 3) := by decide +kernel
theorem d_E_carryOutOrders_38 : decode b_E_carryOutOrders 38 = .ok (.aload_n 0, 1) := by decide +kernel
theorem d_E_carryOutOrders_39 : decode b_E_carryOutOrders 39 = .ok (.getfield 10, 3) := by decide +kernel
theorem d_E_carryOutOrders_42 : decode b_E_carryOutOrders 42 = .ok (.invokevirtual 132, 3) := by decide +kernel
theorem d_E_carryOutOrders_45 : decode b_E_carryOutOrders 45 = .ok (.ifCond .ge 5, 3) := by decide +kernel
theorem d_E_carryOutOrders_48 : decode b_E_carryOutOrders 48 = .ok (.iload_n 1, 1) := by decide +kernel
theorem d_E_carryOutOrders_49 : decode b_E_carryOutOrders 49 = .ok (.ireturn, 1) := by decide +kernel
theorem d_E_carryOutOrders_50 : decode b_E_carryOutOrders 50 = .ok (.iinc 1 1, 3) := by decide +kernel
theorem d_E_carryOutOrders_53 : decode b_E_carryOutOrders 53 = .ok (.goto (-44), 3) := by decide +kernel
theorem d_E_carryOutOrders_56 : decode b_E_carryOutOrders 56 = .ok (.bipush 80, 2) := by decide +kernel
theorem d_E_carryOutOrders_58 : decode b_E_carryOutOrders 58 = .ok (.ireturn, 1) := by decide +kernel
theorem d_E_undo_0 : decode b_E_undo 0 = .ok (.aload_n 0, 1) := by decide +kernel
theorem d_E_undo_1 : decode b_E_undo 1 = .ok (.getfield 46, 3) := by decide +kernel
theorem d_E_undo_4 : decode b_E_undo 4 = .ok (.iconst 1, 1) := by decide +kernel
theorem d_E_undo_5 : decode b_E_undo 5 = .ok (.if_icmp .lt 12, 3) := by decide +kernel
theorem d_E_undo_8 : decode b_E_undo 8 = .ok (.aload_n 0, 1) := by decide +kernel
theorem d_E_undo_9 : decode b_E_undo 9 = .ok (.getfield 46, 3) := by decide +kernel
theorem d_E_undo_12 : decode b_E_undo 12 = .ok (.bipush 6, 2) := by decide +kernel
theorem d_E_undo_14 : decode b_E_undo 14 = .ok (.if_icmp .le 6, 3) := by decide +kernel
theorem d_E_undo_17 : decode b_E_undo 17 = .ok (.bipush (-5), 2) := by decide +kernel
theorem d_E_undo_19 : decode b_E_undo 19 = .ok (.ireturn, 1) := by decide +kernel
theorem d_E_undo_20 : decode b_E_undo 20 = .ok (.aload_n 0, 1) := by decide +kernel
theorem d_E_undo_21 : decode b_E_undo 21 = .ok (.dup, 1) := by decide +kernel
theorem d_E_undo_22 : decode b_E_undo 22 = .ok (.getfield 46, 3) := by decide +kernel
theorem d_E_undo_25 : decode b_E_undo 25 = .ok (.iconst 1, 1) := by decide +kernel
theorem d_E_undo_26 : decode b_E_undo 26 = .ok (.isub, 1) := by decide +kernel
theorem d_E_undo_27 : decode b_E_undo 27 = .ok (.putfield 46, 3) := by decide +kernel
theorem d_E_undo_30 : decode b_E_undo 30 = .ok (.aload_n 0, 1) := by decide +kernel
theorem d_E_undo_31 : decode b_E_undo 31 = .ok (.getfield 10, 3) := by decide +kernel
theorem d_E_undo_34 : decode b_E_undo 34 = .ok (.aload_n 0, 1) := by decide +kernel
theorem d_E_undo_35 : decode b_E_undo 35 = .ok (.getfield 19, 3) := by decide +kernel
theorem d_E_undo_38 : decode b_E_undo 38 = .ok (.aload_n 0, 1) := by decide +kernel
theorem d_E_undo_39 : decode b_E_undo 39 = .ok (.getfield 46, 3) := by decide +kernel
theorem d_E_undo_42 : decode b_E_undo 42 = .ok (.aaload, 1) := by decide +kernel
theorem d_E_undo_43 : decode b_E_undo 43 = .ok (.invokevirtual 50, 3) := by decide +kernel
theorem d_E_undo_46 : decode b_E_undo 46 = .ok (.aload_n 0, 1) := by decide +kernel
theorem d_E_undo_47 : decode b_E_undo 47 = .ok (.getfield 46, 3) := by decide +kernel
theorem d_E_undo_50 : decode b_E_undo 50 = .ok (.ireturn, 1) := by decide +kernel
theorem d_E_save_0 : decode b_E_save 0 = .ok (.iload_n 1, 1) := by decide +kernel
theorem d_E_save_1 : decode b_E_save 1 = .ok (.ifCond .lt 8, 3) := by decide +kernel
theorem d_E_save_4 : decode b_E_save 4 = .ok (.iload_n 1, 1) := by decide +kernel
theorem d_E_save_5 : decode b_E_save 5 = .ok (.iconst 2, 1) := by decide +kernel
theorem d_E_save_6 : decode b_E_save 6 = .ok (.if_icmp .lt 6, 3) := by decide +kernel
theorem d_E_save_9 : decode b_E_save 9 = .ok (.bipush (-2), 2) := by decide +kernel
theorem d_E_save_11 : decode b_E_save 11 = .ok (.ireturn, 1) := by decide +kernel
theorem d_E_save_12 : decode b_E_save 12 = .ok (.aload_n 0, 1) := by decide +kernel
theorem d_E_save_13 : decode b_E_save 13 = .ok (.getfield 23, 3) := by decide +kernel
theorem d_E_save_16 : decode b_E_save 16 = .ok (.iload_n 1, 1) := by decide +kernel
theorem d_E_save_17 : decode b_E_save 17 = .ok (.aaload, 1) := by decide +kernel
theorem d_E_save_18 : decode b_E_save 18 = .ok (.aload_n 0, 1) := by decide +kernel
theorem d_E_save_19 : decode b_E_save 19 = .ok (.getfield 10, 3) := by decide +kernel
theorem d_E_save_22 : decode b_E_save 22 = .ok (.invokevirtual 50, 3) := by decide +kernel
theorem d_E_save_25 : decode b_E_save 25 = .ok (.aload_n 0, 1) := by decide +kernel
theorem d_E_save_26 : decode b_E_save 26 = .ok (.getfield 26, 3) := by decide +kernel
theorem d_E_save_29 : decode b_E_save 29 = .ok (.iload_n 1, 1) := by decide +kernel
theorem d_E_save_30 : decode b_E_save 30 = .ok (.iconst 1, 1) := by decide +kernel
theorem d_E_save_31 : decode b_E_save 31 = .ok (.bastore, 1) := by decide +kernel
theorem d_E_save_32 : decode b_E_save 32 = .ok (.aload_n 0, 1) := by decide +kernel
theorem d_E_save_33 : decode b_E_save 33 = .ok (.getfield 10, 3) := by decide +kernel
theorem d_E_save_36 : decode b_E_save 36 = .ok (.invokevirtual 136, 3) := by decide +kernel
theorem d_E_save_39 : decode b_E_save 39 = .ok (.ireturn, 1) := by decide +kernel
theorem d_E_restore_0 : decode b_E_restore 0 = .ok (.iload_n 1, 1) := by decide +kernel
theorem d_E_restore_1 : decode b_E_restore 1 = .ok (.ifCond .lt 8, 3) := by decide +kernel
theorem d_E_restore_4 : decode b_E_restore 4 = .ok (.iload_n 1, 1) := by decide +kernel
theorem d_E_restore_5 : decode b_E_restore 5 = .ok (.iconst 2, 1) := by decide +kernel
theorem d_E_restore_6 : decode b_E_restore 6 = .ok (.if_icmp .lt 6, 3) := by decide +kernel
theorem d_E_restore_9 : decode b_E_restore 9 = .ok (.bipush (-2), 2) := by decide +kernel
theorem d_E_restore_11 : decode b_E_restore 11 = .ok (.ireturn, 1) := by decide +kernel
theorem d_E_restore_12 : decode b_E_restore 12 = .ok (.aload_n 0, 1) := by decide +kernel
theorem d_E_restore_13 : decode b_E_restore 13 = .ok (.getfield 26, 3) := by decide +kernel
theorem d_E_restore_16 : decode b_E_restore 16 = .ok (.iload_n 1, 1) := by decide +kernel
theorem d_E_restore_17 : decode b_E_restore 17 = .ok (.baload, 1) := by decide +kernel
theorem d_E_restore_18 : decode b_E_restore 18 = .ok (.ifCond .ne 6, 3) := by decide +kernel
theorem d_E_restore_21 : decode b_E_restore 21 = .ok (.bipush (-5), 2) := by decide +kernel
theorem d_E_restore_23 : decode b_E_restore 23 = .ok (.ireturn, 1) := by decide +kernel
theorem d_E_restore_24 : decode b_E_restore 24 = .ok (.aload_n 0, 1) := by decide +kernel
theorem d_E_restore_25 : decode b_E_restore 25 = .ok (.getfield 16, 3) := by decide +kernel
theorem d_E_restore_28 : decode b_E_restore 28 = .ok (.aload_n 0, 1) := by decide +kernel
theorem d_E_restore_29 : decode b_E_restore 29 = .ok (.getfield 10, 3) := by decide +kernel
theorem d_E_restore_32 : decode b_E_restore 32 = .ok (.invokevirtual 50, 3) := by decide +kernel
theorem d_E_restore_35 : decode b_E_restore 35 = .ok (.aload_n 0, 1) := by decide +kernel
theorem d_E_restore_36 : decode b_E_restore 36 = .ok (.getfield 10, 3) := by decide +kernel
theorem d_E_restore_39 : decode b_E_restore 39 = .ok (.aload_n 0, 1) := by decide +kernel
theorem d_E_restore_40 : decode b_E_restore 40 = .ok (.getfield 23, 3) := by decide +kernel
theorem d_E_restore_43 : decode b_E_restore 43 = .ok (.iload_n 1, 1) := by decide +kernel
theorem d_E_restore_44 : decode b_E_restore 44 = .ok (.aaload, 1) := by decide +kernel
theorem d_E_restore_45 : decode b_E_restore 45 = .ok (.invokevirtual 50, 3) := by decide +kernel
theorem d_E_restore_48 : decode b_E_restore 48 = .ok (.aload_n 0, 1) := by decide +kernel
theorem d_E_restore_49 : decode b_E_restore 49 = .ok (.aload_n 0, 1) := by decide +kernel
theorem d_E_restore_50 : decode b_E_restore 50 = .ok (.getfield 10, 3) := by decide +kernel
theorem d_E_restore_53 : decode b_E_restore 53 = .ok (.invokevirtual 136, 3) := by decide +kernel
theorem d_E_restore_56 : decode b_E_restore 56 = .ok (.invokevirtual 58, 3) := by decide +kernel
theorem d_E_restore_59 : decode b_E_restore 59 = .ok (.ireturn, 1) := by decide +kernel
theorem d_E_recorded_0 : decode b_E_recorded 0 = .ok (.iload_n 1, 1) := by decide +kernel
theorem d_E_recorded_1 : decode b_E_recorded 1 = .ok (.ifCond .ge 5, 3) := by decide +kernel
theorem d_E_recorded_4 : decode b_E_recorded 4 = .ok (.iload_n 1, 1) := by decide +kernel
theorem d_E_recorded_5 : decode b_E_recorded 5 = .ok (.ireturn, 1) := by decide +kernel
theorem d_E_recorded_6 : decode b_E_recorded 6 = .ok (.aload_n 0, 1) := by decide +kernel
theorem d_E_recorded_7 : decode b_E_recorded 7 = .ok (.getfield 46, 3) := by decide +kernel
theorem d_E_recorded_10 : decode b_E_recorded 10 = .ok (.bipush 6, 2) := by decide +kernel
theorem d_E_recorded_12 : decode b_E_recorded 12 = .ok (.if_icmp .lt 7, 3) := by decide +kernel
theorem d_E_recorded_15 : decode b_E_recorded 15 = .ok (.aload_n 0, 1) := by decide +kernel
theorem d_E_recorded_16 : decode b_E_recorded 16 = .ok (.invokevirtual 139, 3) := by decide +kernel
theorem d_E_recorded_19 : decode b_E_recorded 19 = .ok (.aload_n 0, 1) := by decide +kernel
theorem d_E_recorded_20 : decode b_E_recorded 20 = .ok (.getfield 19, 3) := by decide +kernel
theorem d_E_recorded_23 : decode b_E_recorded 23 = .ok (.aload_n 0, 1) := by decide +kernel
theorem d_E_recorded_24 : decode b_E_recorded 24 = .ok (.getfield 46, 3) := by decide +kernel
theorem d_E_recorded_27 : decode b_E_recorded 27 = .ok (.aaload, 1) := by decide +kernel
theorem d_E_recorded_28 : decode b_E_recorded 28 = .ok (.astore_n 2, 1) := by decide +kernel
theorem d_E_recorded_29 : decode b_E_recorded 29 = .ok (.aload_n 0, 1) := by decide +kernel
theorem d_E_recorded_30 : decode b_E_recorded 30 = .ok (.getfield 19, 3) := by decide +kernel
theorem d_E_recorded_33 : decode b_E_recorded 33 = .ok (.aload_n 0, 1) := by decide +kernel
theorem d_E_recorded_34 : decode b_E_recorded 34 = .ok (.getfield 46, 3) := by decide +kernel
theorem d_E_recorded_37 : decode b_E_recorded 37 = .ok (.aload_n 0, 1) := by decide +kernel
theorem d_E_recorded_38 : decode b_E_recorded 38 = .ok (.getfield 16, 3) := by decide +kernel
theorem d_E_recorded_41 : decode b_E_recorded 41 = .ok (.aastore, 1) := by decide +kernel
theorem d_E_recorded_42 : decode b_E_recorded 42 = .ok (.aload_n 0, 1) := by decide +kernel
theorem d_E_recorded_43 : decode b_E_recorded 43 = .ok (.aload_n 2, 1) := by decide +kernel
theorem d_E_recorded_44 : decode b_E_recorded 44 = .ok (.putfield 16, 3) := by decide +kernel
theorem d_E_recorded_47 : decode b_E_recorded 47 = .ok (.aload_n 0, 1) := by decide +kernel
theorem d_E_recorded_48 : decode b_E_recorded 48 = .ok (.dup, 1) := by decide +kernel
theorem d_E_recorded_49 : decode b_E_recorded 49 = .ok (.getfield 46, 3) := by decide +kernel
theorem d_E_recorded_52 : decode b_E_recorded 52 = .ok (.iconst 1, 1) := by decide +kernel
theorem d_E_recorded_53 : decode b_E_recorded 53 = .ok (.iadd, 1) := by decide +kernel
theorem d_E_recorded_54 : decode b_E_recorded 54 = .ok (.putfield 46, 3) := by decide +kernel
theorem d_E_recorded_57 : decode b_E_recorded 57 = .ok (.iload_n 1, 1) := by decide +kernel
theorem d_E_recorded_58 : decode b_E_recorded 58 = .ok (.ireturn, 1) := by decide +kernel
theorem d_E_dropOldest_0 : decode b_E_dropOldest 0 = .ok (.aload_n 0, 1) := by decide +kernel
theorem d_E_dropOldest_1 : decode b_E_dropOldest 1 = .ok (.getfield 19, 3) := by decide +kernel
theorem d_E_dropOldest_4 : decode b_E_dropOldest 4 = .ok (.iconst 0, 1) := by decide +kernel
theorem d_E_dropOldest_5 : decode b_E_dropOldest 5 = .ok (.aaload, 1) := by decide +kernel
theorem d_E_dropOldest_6 : decode b_E_dropOldest 6 = .ok (.astore_n 1, 1) := by decide +kernel
theorem d_E_dropOldest_7 : decode b_E_dropOldest 7 = .ok (.iconst 1, 1) := by decide +kernel
theorem d_E_dropOldest_8 : decode b_E_dropOldest 8 = .ok (.istore_n 2, 1) := by decide +kernel
theorem d_E_dropOldest_9 : decode b_E_dropOldest 9 = .ok (.iload_n 2, 1) := by decide +kernel
theorem d_E_dropOldest_10 : decode b_E_dropOldest 10 = .ok (.bipush 6, 2) := by decide +kernel
theorem d_E_dropOldest_12 : decode b_E_dropOldest 12 = .ok (.if_icmp .ge 23, 3) := by decide +kernel
theorem d_E_dropOldest_15 : decode b_E_dropOldest 15 = .ok (.aload_n 0, 1) := by decide +kernel
theorem d_E_dropOldest_16 : decode b_E_dropOldest 16 = .ok (.getfield 19, 3) := by decide +kernel
theorem d_E_dropOldest_19 : decode b_E_dropOldest 19 = .ok (.iload_n 2, 1) := by decide +kernel
theorem d_E_dropOldest_20 : decode b_E_dropOldest 20 = .ok (.iconst 1, 1) := by decide +kernel
theorem d_E_dropOldest_21 : decode b_E_dropOldest 21 = .ok (.isub, 1) := by decide +kernel
theorem d_E_dropOldest_22 : decode b_E_dropOldest 22 = .ok (.aload_n 0, 1) := by decide +kernel
theorem d_E_dropOldest_23 : decode b_E_dropOldest 23 = .ok (.getfield 19, 3) := by decide +kernel
theorem d_E_dropOldest_26 : decode b_E_dropOldest 26 = .ok (.iload_n 2, 1) := by decide +kernel
theorem d_E_dropOldest_27 : decode b_E_dropOldest 27 = .ok (.aaload, 1) := by decide +kernel
theorem d_E_dropOldest_28 : decode b_E_dropOldest 28 = .ok (.aastore, 1) := by decide +kernel
theorem d_E_dropOldest_29 : decode b_E_dropOldest 29 = .ok (.iinc 2 1, 3) := by decide +kernel
theorem d_E_dropOldest_32 : decode b_E_dropOldest 32 = .ok (.goto (-23), 3) := by decide +kernel
theorem d_E_dropOldest_35 : decode b_E_dropOldest 35 = .ok (.aload_n 0, 1) := by decide +kernel
theorem d_E_dropOldest_36 : decode b_E_dropOldest 36 = .ok (.getfield 19, 3) := by decide +kernel
theorem d_E_dropOldest_39 : decode b_E_dropOldest 39 = .ok (.iconst 5, 1) := by decide +kernel
theorem d_E_dropOldest_40 : decode b_E_dropOldest 40 = .ok (.aload_n 1, 1) := by decide +kernel
theorem d_E_dropOldest_41 : decode b_E_dropOldest 41 = .ok (.aastore, 1) := by decide +kernel
theorem d_E_dropOldest_42 : decode b_E_dropOldest 42 = .ok (.aload_n 0, 1) := by decide +kernel
theorem d_E_dropOldest_43 : decode b_E_dropOldest 43 = .ok (.iconst 5, 1) := by decide +kernel
theorem d_E_dropOldest_44 : decode b_E_dropOldest 44 = .ok (.putfield 46, 3) := by decide +kernel
theorem d_E_dropOldest_47 : decode b_E_dropOldest 47 = .ok (.return_, 1) := by decide +kernel
end
section
theorem d_M_init_0 : decode b_M_init 0 = .ok (.aload_n 0, 1) := by decide +kernel
theorem d_M_init_1 : decode b_M_init 1 = .ok (.invokespecial 1, 3) := by decide +kernel
theorem d_M_init_4 : decode b_M_init 4 = .ok (.aload_n 0, 1) := by decide +kernel
theorem d_M_init_5 : decode b_M_init 5 = .ok (.sipush 170, 3) := by decide +kernel
theorem d_M_init_8 : decode b_M_init 8 = .ok (.newarray .int, 2) := by decide +kernel
theorem d_M_init_10 : decode b_M_init 10 = .ok (.putfield 7, 3) := by decide +kernel
theorem d_M_init_13 : decode b_M_init 13 = .ok (.aload_n 0, 1) := by decide +kernel
theorem d_M_init_14 : decode b_M_init 14 = .ok (.sipush 1020, 3) := by decide +kernel
theorem d_M_init_17 : decode b_M_init 17 = .ok (.newarray .int, 2) := by decide +kernel
theorem d_M_init_19 : decode b_M_init 19 = .ok (.putfield 13, 3) := by decide +kernel
theorem d_M_init_22 : decode b_M_init 22 = .ok (.aload_n 0, 1) := by decide +kernel
theorem d_M_init_23 : decode b_M_init 23 = .ok (.sipush 340, 3) := by decide +kernel
theorem d_M_init_26 : decode b_M_init 26 = .ok (.newarray .int, 2) := by decide +kernel
theorem d_M_init_28 : decode b_M_init 28 = .ok (.putfield 16, 3) := by decide +kernel
theorem d_M_init_31 : decode b_M_init 31 = .ok (.aload_n 0, 1) := by decide +kernel
theorem d_M_init_32 : decode b_M_init 32 = .ok (.iconst 2, 1) := by decide +kernel
theorem d_M_init_33 : decode b_M_init 33 = .ok (.newarray .boolean, 2) := by decide +kernel
theorem d_M_init_35 : decode b_M_init 35 = .ok (.putfield 19, 3) := by decide +kernel
theorem d_M_init_38 : decode b_M_init 38 = .ok (.aload_n 0, 1) := by decide +kernel
theorem d_M_init_39 : decode b_M_init 39 = .ok (.bipush 80, 2) := by decide +kernel
theorem d_M_init_41 : decode b_M_init 41 = .ok (.newarray .int, 2) := by decide +kernel
theorem d_M_init_43 : decode b_M_init 43 = .ok (.putfield 23, 3) := by decide +kernel
theorem d_M_init_46 : decode b_M_init 46 = .ok (.aload_n 0, 1) := by decide +kernel
theorem d_M_init_47 : decode b_M_init 47 = .ok (.getfield 7, 3) := by decide +kernel
theorem d_M_init_50 : decode b_M_init 50 = .ok (.iconst 0, 1) := by decide +kernel
theorem d_M_init_51 : decode b_M_init 51 = .ok (.sipush 600, 3) := by decide +kernel
theorem d_M_init_54 : decode b_M_init 54 = .ok (.iastore, 1) := by decide +kernel
theorem d_M_init_55 : decode b_M_init 55 = .ok (.aload_n 0, 1) := by decide +kernel
theorem d_M_init_56 : decode b_M_init 56 = .ok (.getfield 7, 3) := by decide +kernel
theorem d_M_init_59 : decode b_M_init 59 = .ok (.iconst 1, 1) := by decide +kernel
theorem d_M_init_60 : decode b_M_init 60 = .ok (.bipush 10, 2) := by decide +kernel
theorem d_M_init_62 : decode b_M_init 62 = .ok (.iastore, 1) := by decide +kernel
theorem d_M_init_63 : decode b_M_init 63 = .ok (.aload_n 0, 1) := by decide +kernel
theorem d_M_init_64 : decode b_M_init 64 = .ok (.getfield 7, 3) := by decide +kernel
theorem d_M_init_67 : decode b_M_init 67 = .ok (.iconst 2, 1) := by decide +kernel
theorem d_M_init_68 : decode b_M_init 68 = .ok (.iconst 2, 1) := by decide +kernel
theorem d_M_init_69 : decode b_M_init 69 = .ok (.iastore, 1) := by decide +kernel
theorem d_M_init_70 : decode b_M_init 70 = .ok (.return_, 1) := by decide +kernel
theorem d_M_in_0 : decode b_M_in 0 = .ok (.iload_n 0, 1) := by decide +kernel
theorem d_M_in_1 : decode b_M_in 1 = .ok (.iload_n 1, 1) := by decide +kernel
theorem d_M_in_2 : decode b_M_in 2 = .ok (.if_icmp .lt 12, 3) := by decide +kernel
theorem d_M_in_5 : decode b_M_in 5 = .ok (.iload_n 0, 1) := by decide +kernel
theorem d_M_in_6 : decode b_M_in 6 = .ok (.iload_n 2, 1) := by decide +kernel
theorem d_M_in_7 : decode b_M_in 7 = .ok (.if_icmp .gt 7, 3) := by decide +kernel
theorem d_M_in_10 : decode b_M_in 10 = .ok (.iconst 1, 1) := by decide +kernel
theorem d_M_in_11 : decode b_M_in 11 = .ok (.goto 4, 3) := by decide +kernel
theorem d_M_in_14 : decode b_M_in 14 = .ok (.iconst 0, 1) := by decide +kernel
theorem d_M_in_15 : decode b_M_in 15 = .ok (.ireturn, 1) := by decide +kernel
theorem d_M_isFile_0 : decode b_M_isFile 0 = .ok (.iload_n 0, 1) := by decide +kernel
theorem d_M_isFile_1 : decode b_M_isFile 1 = .ok (.iconst 0, 1) := by decide +kernel
theorem d_M_isFile_2 : decode b_M_isFile 2 = .ok (.iconst 1, 1) := by decide +kernel
theorem d_M_isFile_3 : decode b_M_isFile 3 = .ok (.invokestatic 26, 3) := by decide +kernel
theorem d_M_isFile_6 : decode b_M_isFile 6 = .ok (.ireturn, 1) := by decide +kernel
theorem d_M_isBlock_0 : decode b_M_isBlock 0 = .ok (.iload_n 1, 1) := by decide +kernel
theorem d_M_isBlock_1 : decode b_M_isBlock 1 = .ok (.invokestatic 30, 3) := by decide +kernel
theorem d_M_isBlock_4 : decode b_M_isBlock 4 = .ok (.ifCond .eq 26, 3) := by decide +kernel
theorem d_M_isBlock_7 : decode b_M_isBlock 7 = .ok (.iload_n 2, 1) := by decide +kernel
theorem d_M_isBlock_8 : decode b_M_isBlock 8 = .ok (.iconst 0, 1) := by decide +kernel
theorem d_M_isBlock_9 : decode b_M_isBlock 9 = .ok (.aload_n 0, 1) := by decide +kernel
theorem d_M_isBlock_10 : decode b_M_isBlock 10 = .ok (.getfield 7, 3) := by decide +kernel
theorem d_M_isBlock_13 : decode b_M_isBlock 13 = .ok (.bipush 8, 2) := by decide +kernel
theorem d_M_isBlock_15 : decode b_M_isBlock 15 = .ok (.iload_n 1, 1) := by decide +kernel
theorem d_M_isBlock_16 : decode b_M_isBlock 16 = .ok (.iadd, 1) := by decide +kernel
theorem d_M_isBlock_17 : decode b_M_isBlock 17 = .ok (.iaload, 1) := by decide +kernel
theorem d_M_isBlock_18 : decode b_M_isBlock 18 = .ok (.iconst 1, 1) := by decide +kernel
theorem d_M_isBlock_19 : decode b_M_isBlock 19 = .ok (.isub, 1) := by decide +kernel
theorem d_M_isBlock_20 : decode b_M_isBlock 20 = .ok (.invokestatic 26, 3) := by decide +kernel
theorem d_M_isBlock_23 : decode b_M_isBlock 23 = .ok (.ifCond .eq 7, 3) := by decide +kernel
theorem d_M_isBlock_26 : decode b_M_isBlock 26 = .ok (.iconst 1, 1) := by decide +kernel
theorem d_M_isBlock_27 : decode b_M_isBlock 27 = .ok (.goto 4, 3) := by decide +kernel
theorem d_M_isBlock_30 : decode b_M_isBlock 30 = .ok (.iconst 0, 1) := by decide +kernel
theorem d_M_isBlock_31 : decode b_M_isBlock 31 = .ok (.ireturn, 1) := by decide +kernel
theorem d_M_of_0 : decode b_M_of 0 = .ok (.bipush 10, 2) := by decide +kernel
theorem d_M_of_2 : decode b_M_of 2 = .ok (.bipush 80, 2) := by decide +kernel
theorem d_M_of_4 : decode b_M_of 4 = .ok (.iload_n 0, 1) := by decide +kernel
theorem d_M_of_5 : decode b_M_of 5 = .ok (.imul, 1) := by decide +kernel
theorem d_M_of_6 : decode b_M_of 6 = .ok (.iadd, 1) := by decide +kernel
theorem d_M_of_7 : decode b_M_of 7 = .ok (.iconst 4, 1) := by decide +kernel
theorem d_M_of_8 : decode b_M_of 8 = .ok (.iload_n 1, 1) := by decide +kernel
theorem d_M_of_9 : decode b_M_of 9 = .ok (.imul, 1) := by decide +kernel
theorem d_M_of_10 : decode b_M_of 10 = .ok (.iadd, 1) := by decide +kernel
theorem d_M_of_11 : decode b_M_of 11 = .ok (.iload_n 2, 1) := by decide +kernel
theorem d_M_of_12 : decode b_M_of 12 = .ok (.iadd, 1) := by decide +kernel
theorem d_M_of_13 : decode b_M_of 13 = .ok (.ireturn, 1) := by decide +kernel
theorem d_M_apart_0 : decode b_M_apart 0 = .ok (.iload_n 0, 1) := by decide +kernel
theorem d_M_apart_1 : decode b_M_apart 1 = .ok (.iload_n 1, 1) := by decide +kernel
theorem d_M_apart_2 : decode b_M_apart 2 = .ok (.if_icmp .le 9, 3) := by decide +kernel
theorem d_M_apart_5 : decode b_M_apart 5 = .ok (.iload_n 0, 1) := by decide +kernel
theorem d_M_apart_6 : decode b_M_apart 6 = .ok (.iload_n 1, 1) := by decide +kernel
theorem d_M_apart_7 : decode b_M_apart 7 = .ok (.isub, 1) := by decide +kernel
theorem d_M_apart_8 : decode b_M_apart 8 = .ok (.goto 6, 3) := by decide +kernel
theorem d_M_apart_11 : decode b_M_apart 11 = .ok (.iload_n 1, 1) := by decide +kernel
theorem d_M_apart_12 : decode b_M_apart 12 = .ok (.iload_n 0, 1) := by decide +kernel
theorem d_M_apart_13 : decode b_M_apart 13 = .ok (.isub, 1) := by decide +kernel
theorem d_M_apart_14 : decode b_M_apart 14 = .ok (.ireturn, 1) := by decide +kernel
theorem d_M_know_0 : decode b_M_know 0 = .ok (.aload_n 0, 1) := by decide +kernel
theorem d_M_know_1 : decode b_M_know 1 = .ok (.getfield 34, 3) := by decide +kernel
theorem d_M_know_4 : decode b_M_know 4 = .ok (.bipush 6, 2) := by decide +kernel
theorem d_M_know_6 : decode b_M_know 6 = .ok (.if_icmp .ne 44, 3) := by decide +kernel
theorem d_M_know_9 : decode b_M_know 9 = .ok (.iconst 0, 1) := by decide +kernel
theorem d_M_know_10 : decode b_M_know 10 = .ok (.istore_n 1, 1) := by decide +kernel
theorem d_M_know_11 : decode b_M_know 11 = .ok (.iload_n 1, 1) := by decide +kernel
theorem d_M_know_12 : decode b_M_know 12 = .ok (.sipush 850, 3) := by decide +kernel
theorem d_M_know_15 : decode b_M_know 15 = .ok (.if_icmp .ge 25, 3) := by decide +kernel
theorem d_M_know_18 : decode b_M_know 18 = .ok (.aload_n 0, 1) := by decide +kernel
theorem d_M_know_19 : decode b_M_know 19 = .ok (.getfield 13, 3) := by decide +kernel
theorem d_M_know_22 : decode b_M_know 22 = .ok (.iload_n 1, 1) := by decide +kernel
theorem d_M_know_23 : decode b_M_know 23 = .ok (.aload_n 0, 1) := by decide +kernel
theorem d_M_know_24 : decode b_M_know 24 = .ok (.getfield 13, 3) := by decide +kernel
theorem d_M_know_27 : decode b_M_know 27 = .ok (.sipush 170, 3) := by decide +kernel
theorem d_M_know_30 : decode b_M_know 30 = .ok (.iload_n 1, 1) := by decide +kernel
theorem d_M_know_31 : decode b_M_know 31 = .ok (.iadd, 1) := by decide +kernel
theorem d_M_know_32 : decode b_M_know 32 = .ok (.iaload, 1) := by decide +kernel
theorem d_M_know_33 : decode b_M_know 33 = .ok (.iastore, 1) := by decide +kernel
theorem d_M_know_34 : decode b_M_know 34 = .ok (.iinc 1 1, 3) := by decide +kernel
theorem d_M_know_37 : decode b_M_know 37 = .ok (.goto (-26), 3) := by decide +kernel
theorem d_M_know_40 : decode b_M_know 40 = .ok (.aload_n 0, 1) := by decide +kernel
theorem d_M_know_41 : decode b_M_know 41 = .ok (.dup, 1) := by decide +kernel
theorem d_M_know_42 : decode b_M_know 42 = .ok (.getfield 34, 3) := by decide +kernel
theorem d_M_know_45 : decode b_M_know 45 = .ok (.iconst 1, 1) := by decide +kernel
theorem d_M_know_46 : decode b_M_know 46 = .ok (.isub, 1) := by decide +kernel
theorem d_M_know_47 : decode b_M_know 47 = .ok (.putfield 34, 3) := by decide +kernel
theorem d_M_know_50 : decode b_M_know 50 = .ok (.iconst 0, 1) := by decide +kernel
theorem d_M_know_51 : decode b_M_know 51 = .ok (.istore_n 1, 1) := by decide +kernel
theorem d_M_know_52 : decode b_M_know 52 = .ok (.iload_n 1, 1) := by decide +kernel
theorem d_M_know_53 : decode b_M_know 53 = .ok (.sipush 170, 3) := by decide +kernel
theorem d_M_know_56 : decode b_M_know 56 = .ok (.if_icmp .ge 30, 3) := by decide +kernel
theorem d_M_know_59 : decode b_M_know 59 = .ok (.aload_n 0, 1) := by decide +kernel
theorem d_M_know_60 : decode b_M_know 60 = .ok (.getfield 13, 3) := by decide +kernel
theorem d_M_know_63 : decode b_M_know 63 = .ok (.sipush 170, 3) := by decide +kernel
theorem d_M_know_66 : decode b_M_know 66 = .ok (.aload_n 0, 1) := by decide +kernel
theorem d_M_know_67 : decode b_M_know 67 = .ok (.getfield 34, 3) := by decide +kernel
theorem d_M_know_70 : decode b_M_know 70 = .ok (.imul, 1) := by decide +kernel
theorem d_M_know_71 : decode b_M_know 71 = .ok (.iload_n 1, 1) := by decide +kernel
theorem d_M_know_72 : decode b_M_know 72 = .ok (.iadd, 1) := by decide +kernel
theorem d_M_know_73 : decode b_M_know 73 = .ok (.aload_n 0, 1) := by decide +kernel
theorem d_M_know_74 : decode b_M_know 74 = .ok (.getfield 7, 3) := by decide +kernel
theorem d_M_know_77 : decode b_M_know 77 = .ok (.iload_n 1, 1) := by decide +kernel
theorem d_M_know_78 : decode b_M_know 78 = .ok (.iaload, 1) := by decide +kernel
theorem d_M_know_79 : decode b_M_know 79 = .ok (.iastore, 1) := by decide +kernel
theorem d_M_know_80 : decode b_M_know 80 = .ok (.iinc 1 1, 3) := by decide +kernel
theorem d_M_know_83 : decode b_M_know 83 = .ok (.goto (-31), 3) := by decide +kernel
theorem d_M_know_86 : decode b_M_know 86 = .ok (.aload_n 0, 1) := by decide +kernel
theorem d_M_know_87 : decode b_M_know 87 = .ok (.dup, 1) := by decide +kernel
theorem d_M_know_88 : decode b_M_know 88 = .ok (.getfield 34, 3) := by decide +kernel
theorem d_M_know_91 : decode b_M_know 91 = .ok (.iconst 1, 1) := by decide +kernel
theorem d_M_know_92 : decode b_M_know 92 = .ok (.iadd, 1) := by decide +kernel
theorem d_M_know_93 : decode b_M_know 93 = .ok (.putfield 34, 3) := by decide +kernel
theorem d_M_know_96 : decode b_M_know 96 = .ok (.return_, 1) := by decide +kernel
theorem d_M_whole_0 : decode b_M_whole 0 = .ok (.aload_n 0, 1) := by decide +kernel
theorem d_M_whole_1 : decode b_M_whole 1 = .ok (.getfield 7, 3) := by decide +kernel
theorem d_M_whole_4 : decode b_M_whole 4 = .ok (.iload_n 1, 1) := by decide +kernel
theorem d_M_whole_5 : decode b_M_whole 5 = .ok (.iload_n 2, 1) := by decide +kernel
theorem d_M_whole_6 : decode b_M_whole 6 = .ok (.iconst 0, 1) := by decide +kernel
theorem d_M_whole_7 : decode b_M_whole 7 = .ok (.invokestatic 38, 3) := by decide +kernel
theorem d_M_whole_10 : decode b_M_whole 10 = .ok (.iaload, 1) := by decide +kernel
theorem d_M_whole_11 : decode b_M_whole 11 = .ok (.iconst 2, 1) := by decide +kernel
theorem d_M_whole_12 : decode b_M_whole 12 = .ok (.aload_n 0, 1) := by decide +kernel
theorem d_M_whole_13 : decode b_M_whole 13 = .ok (.getfield 7, 3) := by decide +kernel
theorem d_M_whole_16 : decode b_M_whole 16 = .ok (.iload_n 1, 1) := by decide +kernel
theorem d_M_whole_17 : decode b_M_whole 17 = .ok (.iload_n 2, 1) := by decide +kernel
theorem d_M_whole_18 : decode b_M_whole 18 = .ok (.iconst 2, 1) := by decide +kernel
theorem d_M_whole_19 : decode b_M_whole 19 = .ok (.invokestatic 38, 3) := by decide +kernel
theorem d_M_whole_22 : decode b_M_whole 22 = .ok (.iaload, 1) := by decide +kernel
theorem d_M_whole_23 : decode b_M_whole 23 = .ok (.imul, 1) := by decide +kernel
theorem d_M_whole_24 : decode b_M_whole 24 = .ok (.iadd, 1) := by decide +kernel
theorem d_M_whole_25 : decode b_M_whole 25 = .ok (.ireturn, 1) := by decide +kernel
theorem d_M_feet_0 : decode b_M_feet 0 = .ok (.iconst 0, 1) := by decide +kernel
theorem d_M_feet_1 : decode b_M_feet 1 = .ok (.istore_n 3, 1) := by decide +kernel
theorem d_M_feet_2 : decode b_M_feet 2 = .ok (.iconst 0, 1) := by decide +kernel
theorem d_M_feet_3 : decode b_M_feet 3 = .ok (.istore 4, 2) := by decide +kernel
theorem d_M_feet_5 : decode b_M_feet 5 = .ok (.iload 4, 2) := by decide +kernel
theorem d_M_feet_7 : decode b_M_feet 7 = .ok (.iload_n 2, 1) := by decide +kernel
theorem d_M_feet_8 : decode b_M_feet 8 = .ok (.if_icmp .ge 19, 3) := by decide +kernel
theorem d_M_feet_11 : decode b_M_feet 11 = .ok (.iload_n 3, 1) := by decide +kernel
theorem d_M_feet_12 : decode b_M_feet 12 = .ok (.aload_n 0, 1) := by decide +kernel
theorem d_M_feet_13 : decode b_M_feet 13 = .ok (.iload_n 1, 1) := by decide +kernel
theorem d_M_feet_14 : decode b_M_feet 14 = .ok (.iload 4, 2) := by decide +kernel
theorem d_M_feet_16 : decode b_M_feet 16 = .ok (.invokevirtual 42, 3) := by decide +kernel
theorem d_M_feet_19 : decode b_M_feet 19 = .ok (.iadd, 1) := by decide +kernel
theorem d_M_feet_20 : decode b_M_feet 20 = .ok (.istore_n 3, 1) := by decide +kernel
theorem d_M_feet_21 : decode b_M_feet 21 = .ok (.iinc 4 1, 3) := by decide +kernel
theorem d_M_feet_24 : decode b_M_feet 24 = .ok (.goto (-19), 3) := by decide +kernel
theorem d_M_feet_27 : decode b_M_feet 27 = .ok (.iload_n 3, 1) := by decide +kernel
theorem d_M_feet_28 : decode b_M_feet 28 = .ok (.ireturn, 1) := by decide +kernel
theorem d_M_allFeet_0 : decode b_M_allFeet 0 = .ok (.aload_n 0, 1) := by decide +kernel
theorem d_M_allFeet_1 : decode b_M_allFeet 1 = .ok (.iload_n 1, 1) := by decide +kernel
theorem d_M_allFeet_2 : decode b_M_allFeet 2 = .ok (.aload_n 0, 1) := by decide +kernel
theorem d_M_allFeet_3 : decode b_M_allFeet 3 = .ok (.getfield 7, 3) := by decide +kernel
theorem d_M_allFeet_6 : decode b_M_allFeet 6 = .ok (.bipush 8, 2) := by decide +kernel
theorem d_M_allFeet_8 : decode b_M_allFeet 8 = .ok (.iload_n 1, 1) := by decide +kernel
theorem d_M_allFeet_9 : decode b_M_allFeet 9 = .ok (.iadd, 1) := by decide +kernel
theorem d_M_allFeet_10 : decode b_M_allFeet 10 = .ok (.iaload, 1) := by decide +kernel
theorem d_M_allFeet_11 : decode b_M_allFeet 11 = .ok (.invokevirtual 46, 3) := by decide +kernel
theorem d_M_allFeet_14 : decode b_M_allFeet 14 = .ok (.ireturn, 1) := by decide +kernel
theorem d_M_end_0 : decode b_M_end 0 = .ok (.iload_n 1, 1) := by decide +kernel
theorem d_M_end_1 : decode b_M_end 1 = .ok (.ifCond .ne 11, 3) := by decide +kernel
theorem d_M_end_4 : decode b_M_end 4 = .ok (.aload_n 0, 1) := by decide +kernel
theorem d_M_end_5 : decode b_M_end 5 = .ok (.iconst 0, 1) := by decide +kernel
theorem d_M_end_6 : decode b_M_end 6 = .ok (.invokevirtual 49, 3) := by decide +kernel
theorem d_M_end_9 : decode b_M_end 9 = .ok (.goto 15, 3) := by decide +kernel
theorem d_M_end_12 : decode b_M_end 12 = .ok (.aload_n 0, 1) := by decide +kernel
theorem d_M_end_13 : decode b_M_end 13 = .ok (.getfield 7, 3) := by decide +kernel
theorem d_M_end_16 : decode b_M_end 16 = .ok (.iconst 0, 1) := by decide +kernel
theorem d_M_end_17 : decode b_M_end 17 = .ok (.iaload, 1) := by decide +kernel
theorem d_M_end_18 : decode b_M_end 18 = .ok (.aload_n 0, 1) := by decide +kernel
theorem d_M_end_19 : decode b_M_end 19 = .ok (.iconst 1, 1) := by decide +kernel
theorem d_M_end_20 : decode b_M_end 20 = .ok (.invokevirtual 49, 3) := by decide +kernel
theorem d_M_end_23 : decode b_M_end 23 = .ok (.isub, 1) := by decide +kernel
theorem d_M_end_24 : decode b_M_end 24 = .ok (.ireturn, 1) := by decide +kernel
theorem d_M_gap_0 : decode b_M_gap 0 = .ok (.aload_n 0, 1) := by decide +kernel
theorem d_M_gap_1 : decode b_M_gap 1 = .ok (.iconst 1, 1) := by decide +kernel
theorem d_M_gap_2 : decode b_M_gap 2 = .ok (.invokevirtual 53, 3) := by decide +kernel
theorem d_M_gap_5 : decode b_M_gap 5 = .ok (.aload_n 0, 1) := by decide +kernel
theorem d_M_gap_6 : decode b_M_gap 6 = .ok (.iconst 0, 1) := by decide +kernel
theorem d_M_gap_7 : decode b_M_gap 7 = .ok (.invokevirtual 53, 3) := by decide +kernel
theorem d_M_gap_10 : decode b_M_gap 10 = .ok (.isub, 1) := by decide +kernel
theorem d_M_gap_11 : decode b_M_gap 11 = .ok (.ireturn, 1) := by decide +kernel
theorem d_M_lower_0 : decode b_M_lower 0 = .ok (.iload_n 1, 1) := by decide +kernel
theorem d_M_lower_1 : decode b_M_lower 1 = .ok (.ifCond .ne 12, 3) := by decide +kernel
theorem d_M_lower_4 : decode b_M_lower 4 = .ok (.aload_n 0, 1) := by decide +kernel
theorem d_M_lower_5 : decode b_M_lower 5 = .ok (.iconst 0, 1) := by decide +kernel
theorem d_M_lower_6 : decode b_M_lower 6 = .ok (.iload_n 2, 1) := by decide +kernel
theorem d_M_lower_7 : decode b_M_lower 7 = .ok (.invokevirtual 46, 3) := by decide +kernel
theorem d_M_lower_10 : decode b_M_lower 10 = .ok (.goto 18, 3) := by decide +kernel
theorem d_M_lower_13 : decode b_M_lower 13 = .ok (.aload_n 0, 1) := by decide +kernel
theorem d_M_lower_14 : decode b_M_lower 14 = .ok (.getfield 7, 3) := by decide +kernel
theorem d_M_lower_17 : decode b_M_lower 17 = .ok (.iconst 0, 1) := by decide +kernel
theorem d_M_lower_18 : decode b_M_lower 18 = .ok (.iaload, 1) := by decide +kernel
theorem d_M_lower_19 : decode b_M_lower 19 = .ok (.aload_n 0, 1) := by decide +kernel
theorem d_M_lower_20 : decode b_M_lower 20 = .ok (.iconst 1, 1) := by decide +kernel
theorem d_M_lower_21 : decode b_M_lower 21 = .ok (.iload_n 2, 1) := by decide +kernel
theorem d_M_lower_22 : decode b_M_lower 22 = .ok (.iconst 1, 1) := by decide +kernel
theorem d_M_lower_23 : decode b_M_lower 23 = .ok (.iadd, 1) := by decide +kernel
theorem d_M_lower_24 : decode b_M_lower 24 = .ok (.invokevirtual 46, 3) := by decide +kernel
theorem d_M_lower_27 : decode b_M_lower 27 = .ok (.isub, 1) := by decide +kernel
theorem d_M_lower_28 : decode b_M_lower 28 = .ok (.ireturn, 1) := by decide +kernel
theorem d_M_upper_0 : decode b_M_upper 0 = .ok (.aload_n 0, 1) := by decide +kernel
theorem d_M_upper_1 : decode b_M_upper 1 = .ok (.iload_n 1, 1) := by decide +kernel
theorem d_M_upper_2 : decode b_M_upper 2 = .ok (.iload_n 2, 1) := by decide +kernel
theorem d_M_upper_3 : decode b_M_upper 3 = .ok (.invokevirtual 56, 3) := by decide +kernel
theorem d_M_upper_6 : decode b_M_upper 6 = .ok (.aload_n 0, 1) := by decide +kernel
theorem d_M_upper_7 : decode b_M_upper 7 = .ok (.iload_n 1, 1) := by decide +kernel
theorem d_M_upper_8 : decode b_M_upper 8 = .ok (.iload_n 2, 1) := by decide +kernel
theorem d_M_upper_9 : decode b_M_upper 9 = .ok (.invokevirtual 42, 3) := by decide +kernel
theorem d_M_upper_12 : decode b_M_upper 12 = .ok (.iadd, 1) := by decide +kernel
theorem d_M_upper_13 : decode b_M_upper 13 = .ok (.ireturn, 1) := by decide +kernel
theorem d_M_travel_0 : decode b_M_travel 0 = .ok (.aload_n 0, 1) := by decide +kernel
theorem d_M_travel_1 : decode b_M_travel 1 = .ok (.getfield 7, 3) := by decide +kernel
theorem d_M_travel_4 : decode b_M_travel 4 = .ok (.bipush 6, 2) := by decide +kernel
theorem d_M_travel_6 : decode b_M_travel 6 = .ok (.aload_n 0, 1) := by decide +kernel
theorem d_M_travel_7 : decode b_M_travel 7 = .ok (.getfield 7, 3) := by decide +kernel
theorem d_M_travel_10 : decode b_M_travel 10 = .ok (.bipush 6, 2) := by decide +kernel
theorem d_M_travel_12 : decode b_M_travel 12 = .ok (.iaload, 1) := by decide +kernel
theorem d_M_travel_13 : decode b_M_travel 13 = .ok (.aload_n 0, 1) := by decide +kernel
theorem d_M_travel_14 : decode b_M_travel 14 = .ok (.getfield 7, 3) := by decide +kernel
theorem d_M_travel_17 : decode b_M_travel 17 = .ok (.iconst 3, 1) := by decide +kernel
theorem d_M_travel_18 : decode b_M_travel 18 = .ok (.iaload, 1) := by decide +kernel
theorem d_M_travel_19 : decode b_M_travel 19 = .ok (.iload_n 1, 1) := by decide +kernel
theorem d_M_travel_20 : decode b_M_travel 20 = .ok (.invokestatic 59, 3) := by decide +kernel
theorem d_M_travel_23 : decode b_M_travel 23 = .ok (.iadd, 1) := by decide +kernel
theorem d_M_travel_24 : decode b_M_travel 24 = .ok (.ldc 62, 2) := by decide +kernel
theorem d_M_travel_26 : decode b_M_travel 26 = .ok (.irem, 1) := by decide +kernel
theorem d_M_travel_27 : decode b_M_travel 27 = .ok (.iastore, 1) := by decide +kernel
theorem d_M_travel_28 : decode b_M_travel 28 = .ok (.aload_n 0, 1) := by decide +kernel
theorem d_M_travel_29 : decode b_M_travel 29 = .ok (.getfield 7, 3) := by decide +kernel
theorem d_M_travel_32 : decode b_M_travel 32 = .ok (.iconst 3, 1) := by decide +kernel
theorem d_M_travel_33 : decode b_M_travel 33 = .ok (.iload_n 1, 1) := by decide +kernel
theorem d_M_travel_34 : decode b_M_travel 34 = .ok (.iastore, 1) := by decide +kernel
theorem d_M_travel_35 : decode b_M_travel 35 = .ok (.return_, 1) := by decide +kernel
theorem d_M_endOf_0 : decode b_M_endOf 0 = .ok (.iload_n 1, 1) := by decide +kernel
theorem d_M_endOf_1 : decode b_M_endOf 1 = .ok (.iload_n 3, 1) := by decide +kernel
theorem d_M_endOf_2 : decode b_M_endOf 2 = .ok (.iadd, 1) := by decide +kernel
theorem d_M_endOf_3 : decode b_M_endOf 3 = .ok (.iconst 2, 1) := by decide +kernel
theorem d_M_endOf_4 : decode b_M_endOf 4 = .ok (.irem, 1) := by decide +kernel
theorem d_M_endOf_5 : decode b_M_endOf 5 = .ok (.ifCond .ne 7, 3) := by decide +kernel
theorem d_M_endOf_8 : decode b_M_endOf 8 = .ok (.iconst 1, 1) := by decide +kernel
theorem d_M_endOf_9 : decode b_M_endOf 9 = .ok (.goto 4, 3) := by decide +kernel
theorem d_M_endOf_12 : decode b_M_endOf 12 = .ok (.iconst 0, 1) := by decide +kernel
theorem d_M_endOf_13 : decode b_M_endOf 13 = .ok (.iload 4, 2) := by decide +kernel
theorem d_M_endOf_15 : decode b_M_endOf 15 = .ok (.if_icmp .ne 7, 3) := by decide +kernel
theorem d_M_endOf_18 : decode b_M_endOf 18 = .ok (.iconst 1, 1) := by decide +kernel
theorem d_M_endOf_19 : decode b_M_endOf 19 = .ok (.goto 4, 3) := by decide +kernel
theorem d_M_endOf_22 : decode b_M_endOf 22 = .ok (.iconst 0, 1) := by decide +kernel
theorem d_M_endOf_23 : decode b_M_endOf 23 = .ok (.istore 5, 2) := by decide +kernel
theorem d_M_endOf_25 : decode b_M_endOf 25 = .ok (.iload 5, 2) := by decide +kernel
theorem d_M_endOf_27 : decode b_M_endOf 27 = .ok (.ifCond .eq 12, 3) := by decide +kernel
theorem d_M_endOf_30 : decode b_M_endOf 30 = .ok (.aload_n 0, 1) := by decide +kernel
theorem d_M_endOf_31 : decode b_M_endOf 31 = .ok (.iload_n 1, 1) := by decide +kernel
theorem d_M_endOf_32 : decode b_M_endOf 32 = .ok (.iload_n 2, 1) := by decide +kernel
theorem d_M_endOf_33 : decode b_M_endOf 33 = .ok (.invokevirtual 56, 3) := by decide +kernel
theorem d_M_endOf_36 : decode b_M_endOf 36 = .ok (.goto 9, 3) := by decide +kernel
theorem d_M_endOf_39 : decode b_M_endOf 39 = .ok (.aload_n 0, 1) := by decide +kernel
theorem d_M_endOf_40 : decode b_M_endOf 40 = .ok (.iload_n 1, 1) := by decide +kernel
theorem d_M_endOf_41 : decode b_M_endOf 41 = .ok (.iload_n 2, 1) := by decide +kernel
theorem d_M_endOf_42 : decode b_M_endOf 42 = .ok (.invokevirtual 63, 3) := by decide +kernel
theorem d_M_endOf_45 : decode b_M_endOf 45 = .ok (.ireturn, 1) := by decide +kernel
theorem d_M_travelTo_0 : decode b_M_travelTo 0 = .ok (.aload_n 0, 1) := by decide +kernel
theorem d_M_travelTo_1 : decode b_M_travelTo 1 = .ok (.getfield 7, 3) := by decide +kernel
theorem d_M_travelTo_4 : decode b_M_travelTo 4 = .ok (.iconst 3, 1) := by decide +kernel
theorem d_M_travelTo_5 : decode b_M_travelTo 5 = .ok (.iaload, 1) := by decide +kernel
theorem d_M_travelTo_6 : decode b_M_travelTo 6 = .ok (.aload_n 0, 1) := by decide +kernel
theorem d_M_travelTo_7 : decode b_M_travelTo 7 = .ok (.iload_n 1, 1) := by decide +kernel
theorem d_M_travelTo_8 : decode b_M_travelTo 8 = .ok (.iload_n 2, 1) := by decide +kernel
theorem d_M_travelTo_9 : decode b_M_travelTo 9 = .ok (.iload_n 3, 1) := by decide +kernel
theorem d_M_travelTo_10 : decode b_M_travelTo 10 = .ok (.iconst 1, 1) := by decide +kernel
theorem d_M_travelTo_11 : decode b_M_travelTo 11 = .ok (.invokevirtual 66, 3) := by decide +kernel
theorem d_M_travelTo_14 : decode b_M_travelTo 14 = .ok (.invokestatic 59, 3) := by decide +kernel
theorem d_M_travelTo_17 : decode b_M_travelTo 17 = .ok (.aload_n 0, 1) := by decide +kernel
theorem d_M_travelTo_18 : decode b_M_travelTo 18 = .ok (.iload_n 1, 1) := by decide +kernel
theorem d_M_travelTo_19 : decode b_M_travelTo 19 = .ok (.iload_n 2, 1) := by decide +kernel
theorem d_M_travelTo_20 : decode b_M_travelTo 20 = .ok (.invokevirtual 42, 3) := by decide +kernel
theorem d_M_travelTo_23 : decode b_M_travelTo 23 = .ok (.iadd, 1) := by decide +kernel
theorem d_M_travelTo_24 : decode b_M_travelTo 24 = .ok (.ireturn, 1) := by decide +kernel
theorem d_M_writeFault_0 : decode b_M_writeFault 0 = .ok (.iload_n 1, 1) := by decide +kernel
theorem d_M_writeFault_1 : decode b_M_writeFault 1 = .ok (.invokestatic 30, 3) := by decide +kernel
theorem d_M_writeFault_4 : decode b_M_writeFault 4 = .ok (.ifCond .ne 5, 3) := by decide +kernel
theorem d_M_writeFault_7 : decode b_M_writeFault 7 = .ok (.iconst (-1), 1) := by decide +kernel
theorem d_M_writeFault_8 : decode b_M_writeFault 8 = .ok (.ireturn, 1) := by decide +kernel
theorem d_M_writeFault_9 : decode b_M_writeFault 9 = .ok (.iload_n 2, 1) := by decide +kernel
theorem d_M_writeFault_10 : decode b_M_writeFault 10 = .ok (.iconst 1, 1) := by decide +kernel
theorem d_M_writeFault_11 : decode b_M_writeFault 11 = .ok (.bipush 99, 2) := by decide +kernel
theorem d_M_writeFault_13 : decode b_M_writeFault 13 = .ok (.invokestatic 26, 3) := by decide +kernel
theorem d_M_writeFault_16 : decode b_M_writeFault 16 = .ok (.ifCond .eq 14, 3) := by decide +kernel
theorem d_M_writeFault_19 : decode b_M_writeFault 19 = .ok (.iload_n 3, 1) := by decide +kernel
theorem d_M_writeFault_20 : decode b_M_writeFault 20 = .ok (.iconst 0, 1) := by decide +kernel
theorem d_M_writeFault_21 : decode b_M_writeFault 21 = .ok (.sipush 9999, 3) := by decide +kernel
theorem d_M_writeFault_24 : decode b_M_writeFault 24 = .ok (.invokestatic 26, 3) := by decide +kernel
theorem d_M_writeFault_27 : decode b_M_writeFault 27 = .ok (.ifCond .ne 6, 3) := by decide +kernel
theorem d_M_writeFault_30 : decode b_M_writeFault 30 = .ok (.bipush (-2), 2) := by decide +kernel
theorem d_M_writeFault_32 : decode b_M_writeFault 32 = .ok (.ireturn, 1) := by decide +kernel
theorem d_M_writeFault_33 : decode b_M_writeFault 33 = .ok (.aload_n 0, 1) := by decide +kernel
theorem d_M_writeFault_34 : decode b_M_writeFault 34 = .ok (.getfield 7, 3) := by decide +kernel
theorem d_M_writeFault_37 : decode b_M_writeFault 37 = .ok (.bipush 8, 2) := by decide +kernel
theorem d_M_writeFault_39 : decode b_M_writeFault 39 = .ok (.iload_n 1, 1) := by decide +kernel
theorem d_M_writeFault_40 : decode b_M_writeFault 40 = .ok (.iadd, 1) := by decide +kernel
theorem d_M_writeFault_41 : decode b_M_writeFault 41 = .ok (.iaload, 1) := by decide +kernel
theorem d_M_writeFault_42 : decode b_M_writeFault 42 = .ok (.bipush 20, 2) := by decide +kernel
theorem d_M_writeFault_44 : decode b_M_writeFault 44 = .ok (.if_icmp .ne 6, 3) := by decide +kernel
theorem d_M_writeFault_47 : decode b_M_writeFault 47 = .ok (.bipush (-4), 2) := by decide +kernel
theorem d_M_writeFault_49 : decode b_M_writeFault 49 = .ok (.ireturn, 1) := by decide +kernel
theorem d_M_writeFault_50 : decode b_M_writeFault 50 = .ok (.aload_n 0, 1) := by decide +kernel
theorem d_M_writeFault_51 : decode b_M_writeFault 51 = .ok (.invokevirtual 70, 3) := by decide +kernel
theorem d_M_writeFault_54 : decode b_M_writeFault 54 = .ok (.iload_n 2, 1) := by decide +kernel
theorem d_M_writeFault_55 : decode b_M_writeFault 55 = .ok (.isub, 1) := by decide +kernel
theorem d_M_writeFault_56 : decode b_M_writeFault 56 = .ok (.iconst 2, 1) := by decide +kernel
theorem d_M_writeFault_57 : decode b_M_writeFault 57 = .ok (.aload_n 0, 1) := by decide +kernel
theorem d_M_writeFault_58 : decode b_M_writeFault 58 = .ok (.getfield 7, 3) := by decide +kernel
theorem d_M_writeFault_61 : decode b_M_writeFault 61 = .ok (.iconst 2, 1) := by decide +kernel
theorem d_M_writeFault_62 : decode b_M_writeFault 62 = .ok (.iaload, 1) := by decide +kernel
theorem d_M_writeFault_63 : decode b_M_writeFault 63 = .ok (.imul, 1) := by decide +kernel
theorem d_M_writeFault_64 : decode b_M_writeFault 64 = .ok (.isub, 1) := by decide +kernel
theorem d_M_writeFault_65 : decode b_M_writeFault 65 = .ok (.aload_n 0, 1) := by decide +kernel
theorem d_M_writeFault_66 : decode b_M_writeFault 66 = .ok (.getfield 7, 3) := by decide +kernel
theorem d_M_writeFault_69 : decode b_M_writeFault 69 = .ok (.iconst 1, 1) := by decide +kernel
theorem d_M_writeFault_70 : decode b_M_writeFault 70 = .ok (.iaload, 1) := by decide +kernel
theorem d_M_writeFault_71 : decode b_M_writeFault 71 = .ok (.if_icmp .ge 8, 3) := by decide +kernel
theorem d_M_writeFault_74 : decode b_M_writeFault 74 = .ok (.bipush (-5), 2) := by decide +kernel
theorem d_M_writeFault_76 : decode b_M_writeFault 76 = .ok (.goto 4, 3) := by decide +kernel
theorem d_M_writeFault_79 : decode b_M_writeFault 79 = .ok (.iconst 0, 1) := by decide +kernel
theorem d_M_writeFault_80 : decode b_M_writeFault 80 = .ok (.ireturn, 1) := by decide +kernel
theorem d_M_writes_0 : decode b_M_writes 0 = .ok (.aload_n 0, 1) := by decide +kernel
theorem d_M_writes_1 : decode b_M_writes 1 = .ok (.aload_n 0, 1) := by decide +kernel
theorem d_M_writes_2 : decode b_M_writes 2 = .ok (.iload_n 1, 1) := by decide +kernel
theorem d_M_writes_3 : decode b_M_writes 3 = .ok (.invokevirtual 53, 3) := by decide +kernel
theorem d_M_writes_6 : decode b_M_writes 6 = .ok (.invokevirtual 74, 3) := by decide +kernel
theorem d_M_writes_9 : decode b_M_writes 9 = .ok (.aload_n 0, 1) := by decide +kernel
theorem d_M_writes_10 : decode b_M_writes 10 = .ok (.getfield 7, 3) := by decide +kernel
theorem d_M_writes_13 : decode b_M_writes 13 = .ok (.bipush 8, 2) := by decide +kernel
theorem d_M_writes_15 : decode b_M_writes 15 = .ok (.iload_n 1, 1) := by decide +kernel
theorem d_M_writes_16 : decode b_M_writes 16 = .ok (.iadd, 1) := by decide +kernel
theorem d_M_writes_17 : decode b_M_writes 17 = .ok (.iaload, 1) := by decide +kernel
theorem d_M_writes_18 : decode b_M_writes 18 = .ok (.istore 4, 2) := by decide +kernel
theorem d_M_writes_20 : decode b_M_writes 20 = .ok (.aload_n 0, 1) := by decide +kernel
theorem d_M_writes_21 : decode b_M_writes 21 = .ok (.getfield 7, 3) := by decide +kernel
theorem d_M_writes_24 : decode b_M_writes 24 = .ok (.iload_n 1, 1) := by decide +kernel
theorem d_M_writes_25 : decode b_M_writes 25 = .ok (.iload 4, 2) := by decide +kernel
theorem d_M_writes_27 : decode b_M_writes 27 = .ok (.iconst 0, 1) := by decide +kernel
theorem d_M_writes_28 : decode b_M_writes 28 = .ok (.invokestatic 38, 3) := by decide +kernel
theorem d_M_writes_31 : decode b_M_writes 31 = .ok (.iload_n 2, 1) := by decide +kernel
theorem d_M_writes_32 : decode b_M_writes 32 = .ok (.iastore, 1) := by decide +kernel
theorem d_M_writes_33 : decode b_M_writes 33 = .ok (.aload_n 0, 1) := by decide +kernel
theorem d_M_writes_34 : decode b_M_writes 34 = .ok (.getfield 7, 3) := by decide +kernel
theorem d_M_writes_37 : decode b_M_writes 37 = .ok (.iload_n 1, 1) := by decide +kernel
theorem d_M_writes_38 : decode b_M_writes 38 = .ok (.iload 4, 2) := by decide +kernel
theorem d_M_writes_40 : decode b_M_writes 40 = .ok (.iconst 1, 1) := by decide +kernel
theorem d_M_writes_41 : decode b_M_writes 41 = .ok (.invokestatic 38, 3) := by decide +kernel
theorem d_M_writes_44 : decode b_M_writes 44 = .ok (.iload_n 3, 1) := by decide +kernel
theorem d_M_writes_45 : decode b_M_writes 45 = .ok (.iastore, 1) := by decide +kernel
theorem d_M_writes_46 : decode b_M_writes 46 = .ok (.aload_n 0, 1) := by decide +kernel
theorem d_M_writes_47 : decode b_M_writes 47 = .ok (.getfield 7, 3) := by decide +kernel
theorem d_M_writes_50 : decode b_M_writes 50 = .ok (.iload_n 1, 1) := by decide +kernel
theorem d_M_writes_51 : decode b_M_writes 51 = .ok (.iload 4, 2) := by decide +kernel
theorem d_M_writes_53 : decode b_M_writes 53 = .ok (.iconst 2, 1) := by decide +kernel
theorem d_M_writes_54 : decode b_M_writes 54 = .ok (.invokestatic 38, 3) := by decide +kernel
theorem d_M_writes_57 : decode b_M_writes 57 = .ok (.aload_n 0, 1) := by decide +kernel
theorem d_M_writes_58 : decode b_M_writes 58 = .ok (.getfield 7, 3) := by decide +kernel
theorem d_M_writes_61 : decode b_M_writes 61 = .ok (.iconst 2, 1) := by decide +kernel
theorem d_M_writes_62 : decode b_M_writes 62 = .ok (.iaload, 1) := by decide +kernel
theorem d_M_writes_63 : decode b_M_writes 63 = .ok (.iastore, 1) := by decide +kernel
theorem d_M_writes_64 : decode b_M_writes 64 = .ok (.aload_n 0, 1) := by decide +kernel
theorem d_M_writes_65 : decode b_M_writes 65 = .ok (.getfield 7, 3) := by decide +kernel
theorem d_M_writes_68 : decode b_M_writes 68 = .ok (.iload_n 1, 1) := by decide +kernel
theorem d_M_writes_69 : decode b_M_writes 69 = .ok (.iload 4, 2) := by decide +kernel
theorem d_M_writes_71 : decode b_M_writes 71 = .ok (.iconst 3, 1) := by decide +kernel
theorem d_M_writes_72 : decode b_M_writes 72 = .ok (.invokestatic 38, 3) := by decide +kernel
theorem d_M_writes_75 : decode b_M_writes 75 = .ok (.iconst 0, 1) := by decide +kernel
theorem d_M_writes_76 : decode b_M_writes 76 = .ok (.iastore, 1) := by decide +kernel
theorem d_M_writes_77 : decode b_M_writes 77 = .ok (.aload_n 0, 1) := by decide +kernel
theorem d_M_writes_78 : decode b_M_writes 78 = .ok (.getfield 7, 3) := by decide +kernel
theorem d_M_writes_81 : decode b_M_writes 81 = .ok (.bipush 8, 2) := by decide +kernel
theorem d_M_writes_83 : decode b_M_writes 83 = .ok (.iload_n 1, 1) := by decide +kernel
theorem d_M_writes_84 : decode b_M_writes 84 = .ok (.iadd, 1) := by decide +kernel
theorem d_M_writes_85 : decode b_M_writes 85 = .ok (.dup2, 1) := by decide +kernel
theorem d_M_writes_86 : decode b_M_writes 86 = .ok (.iaload, 1) := by decide +kernel
theorem d_M_writes_87 : decode b_M_writes 87 = .ok (.iconst 1, 1) := by decide +kernel
theorem d_M_writes_88 : decode b_M_writes 88 = .ok (.iadd, 1) := by decide +kernel
theorem d_M_writes_89 : decode b_M_writes 89 = .ok (.iastore, 1) := by decide +kernel
theorem d_M_writes_90 : decode b_M_writes 90 = .ok (.aload_n 0, 1) := by decide +kernel
theorem d_M_writes_91 : decode b_M_writes 91 = .ok (.aload_n 0, 1) := by decide +kernel
theorem d_M_writes_92 : decode b_M_writes 92 = .ok (.iload_n 1, 1) := by decide +kernel
theorem d_M_writes_93 : decode b_M_writes 93 = .ok (.invokevirtual 53, 3) := by decide +kernel
theorem d_M_writes_96 : decode b_M_writes 96 = .ok (.invokevirtual 74, 3) := by decide +kernel
theorem d_M_writes_99 : decode b_M_writes 99 = .ok (.iload 4, 2) := by decide +kernel
theorem d_M_writes_101 : decode b_M_writes 101 = .ok (.ireturn, 1) := by decide +kernel
theorem d_M_cutFault_0 : decode b_M_cutFault 0 = .ok (.iload_n 1, 1) := by decide +kernel
theorem d_M_cutFault_1 : decode b_M_cutFault 1 = .ok (.invokestatic 30, 3) := by decide +kernel
theorem d_M_cutFault_4 : decode b_M_cutFault 4 = .ok (.ifCond .ne 7, 3) := by decide +kernel
theorem d_M_cutFault_7 : decode b_M_cutFault 7 = .ok (.iconst (-1), 1) := by decide +kernel
theorem d_M_cutFault_8 : decode b_M_cutFault 8 = .ok (.goto 31, 3) := by decide +kernel
theorem d_M_cutFault_11 : decode b_M_cutFault 11 = .ok (.iload_n 2, 1) := by decide +kernel
theorem d_M_cutFault_12 : decode b_M_cutFault 12 = .ok (.ifCond .ge 8, 3) := by decide +kernel
theorem d_M_cutFault_15 : decode b_M_cutFault 15 = .ok (.bipush (-2), 2) := by decide +kernel
theorem d_M_cutFault_17 : decode b_M_cutFault 17 = .ok (.goto 22, 3) := by decide +kernel
theorem d_M_cutFault_20 : decode b_M_cutFault 20 = .ok (.iload_n 2, 1) := by decide +kernel
theorem d_M_cutFault_21 : decode b_M_cutFault 21 = .ok (.aload_n 0, 1) := by decide +kernel
theorem d_M_cutFault_22 : decode b_M_cutFault 22 = .ok (.getfield 7, 3) := by decide +kernel
theorem d_M_cutFault_25 : decode b_M_cutFault 25 = .ok (.bipush 8, 2) := by decide +kernel
theorem d_M_cutFault_27 : decode b_M_cutFault 27 = .ok (.iload_n 1, 1) := by decide +kernel
theorem d_M_cutFault_28 : decode b_M_cutFault 28 = .ok (.iadd, 1) := by decide +kernel
theorem d_M_cutFault_29 : decode b_M_cutFault 29 = .ok (.iaload, 1) := by decide +kernel
theorem d_M_cutFault_30 : decode b_M_cutFault 30 = .ok (.if_icmp .le 8, 3) := by decide +kernel
theorem d_M_cutFault_33 : decode b_M_cutFault 33 = .ok (.bipush (-5), 2) := by decide +kernel
theorem d_M_cutFault_35 : decode b_M_cutFault 35 = .ok (.goto 4, 3) := by decide +kernel
theorem d_M_cutFault_38 : decode b_M_cutFault 38 = .ok (.iconst 0, 1) := by decide +kernel
theorem d_M_cutFault_39 : decode b_M_cutFault 39 = .ok (.ireturn, 1) := by decide +kernel
theorem d_M_cuts_0 : decode b_M_cuts 0 = .ok (.aload_n 0, 1) := by decide +kernel
theorem d_M_cuts_1 : decode b_M_cuts 1 = .ok (.getfield 7, 3) := by decide +kernel
theorem d_M_cuts_4 : decode b_M_cuts 4 = .ok (.bipush 8, 2) := by decide +kernel
theorem d_M_cuts_6 : decode b_M_cuts 6 = .ok (.iload_n 1, 1) := by decide +kernel
theorem d_M_cuts_7 : decode b_M_cuts 7 = .ok (.iadd, 1) := by decide +kernel
theorem d_M_cuts_8 : decode b_M_cuts 8 = .ok (.iaload, 1) := by decide +kernel
theorem d_M_cuts_9 : decode b_M_cuts 9 = .ok (.iload_n 2, 1) := by decide +kernel
theorem d_M_cuts_10 : decode b_M_cuts 10 = .ok (.isub, 1) := by decide +kernel
theorem d_M_cuts_11 : decode b_M_cuts 11 = .ok (.istore_n 3, 1) := by decide +kernel
theorem d_M_cuts_12 : decode b_M_cuts 12 = .ok (.aload_n 0, 1) := by decide +kernel
theorem d_M_cuts_13 : decode b_M_cuts 13 = .ok (.getfield 7, 3) := by decide +kernel
theorem d_M_cuts_16 : decode b_M_cuts 16 = .ok (.bipush 8, 2) := by decide +kernel
theorem d_M_cuts_18 : decode b_M_cuts 18 = .ok (.iload_n 1, 1) := by decide +kernel
theorem d_M_cuts_19 : decode b_M_cuts 19 = .ok (.iadd, 1) := by decide +kernel
theorem d_M_cuts_20 : decode b_M_cuts 20 = .ok (.iload_n 2, 1) := by decide +kernel
theorem d_M_cuts_21 : decode b_M_cuts 21 = .ok (.iastore, 1) := by decide +kernel
theorem d_M_cuts_22 : decode b_M_cuts 22 = .ok (.iload_n 3, 1) := by decide +kernel
theorem d_M_cuts_23 : decode b_M_cuts 23 = .ok (.ireturn, 1) := by decide +kernel
theorem d_M_moves_0 : decode b_M_moves 0 = .ok (.aload_n 0, 1) := by decide +kernel
theorem d_M_moves_1 : decode b_M_moves 1 = .ok (.getfield 7, 3) := by decide +kernel
theorem d_M_moves_4 : decode b_M_moves 4 = .ok (.iconst 3, 1) := by decide +kernel
theorem d_M_moves_5 : decode b_M_moves 5 = .ok (.iaload, 1) := by decide +kernel
theorem d_M_moves_6 : decode b_M_moves 6 = .ok (.iload_n 1, 1) := by decide +kernel
theorem d_M_moves_7 : decode b_M_moves 7 = .ok (.invokestatic 59, 3) := by decide +kernel
theorem d_M_moves_10 : decode b_M_moves 10 = .ok (.istore_n 2, 1) := by decide +kernel
theorem d_M_moves_11 : decode b_M_moves 11 = .ok (.aload_n 0, 1) := by decide +kernel
theorem d_M_moves_12 : decode b_M_moves 12 = .ok (.iload_n 1, 1) := by decide +kernel
theorem d_M_moves_13 : decode b_M_moves 13 = .ok (.invokevirtual 74, 3) := by decide +kernel
theorem d_M_moves_16 : decode b_M_moves 16 = .ok (.iload_n 2, 1) := by decide +kernel
theorem d_M_moves_17 : decode b_M_moves 17 = .ok (.ireturn, 1) := by decide +kernel
theorem d_M_rewinds_0 : decode b_M_rewinds 0 = .ok (.aload_n 0, 1) := by decide +kernel
theorem d_M_rewinds_1 : decode b_M_rewinds 1 = .ok (.aload_n 0, 1) := by decide +kernel
theorem d_M_rewinds_2 : decode b_M_rewinds 2 = .ok (.getfield 7, 3) := by decide +kernel
theorem d_M_rewinds_5 : decode b_M_rewinds 5 = .ok (.iconst 3, 1) := by decide +kernel
theorem d_M_rewinds_6 : decode b_M_rewinds 6 = .ok (.iaload, 1) := by decide +kernel
theorem d_M_rewinds_7 : decode b_M_rewinds 7 = .ok (.aload_n 0, 1) := by decide +kernel
theorem d_M_rewinds_8 : decode b_M_rewinds 8 = .ok (.getfield 7, 3) := by decide +kernel
theorem d_M_rewinds_11 : decode b_M_rewinds 11 = .ok (.iconst 0, 1) := by decide +kernel
theorem d_M_rewinds_12 : decode b_M_rewinds 12 = .ok (.iaload, 1) := by decide +kernel
theorem d_M_rewinds_13 : decode b_M_rewinds 13 = .ok (.aload_n 0, 1) := by decide +kernel
theorem d_M_rewinds_14 : decode b_M_rewinds 14 = .ok (.getfield 7, 3) := by decide +kernel
theorem d_M_rewinds_17 : decode b_M_rewinds 17 = .ok (.iconst 3, 1) := by decide +kernel
theorem d_M_rewinds_18 : decode b_M_rewinds 18 = .ok (.iaload, 1) := by decide +kernel
theorem d_M_rewinds_19 : decode b_M_rewinds 19 = .ok (.isub, 1) := by decide +kernel
theorem d_M_rewinds_20 : decode b_M_rewinds 20 = .ok (.if_icmp .gt 7, 3) := by decide +kernel
theorem d_M_rewinds_23 : decode b_M_rewinds 23 = .ok (.iconst 0, 1) := by decide +kernel
theorem d_M_rewinds_24 : decode b_M_rewinds 24 = .ok (.goto 9, 3) := by decide +kernel
theorem d_M_rewinds_27 : decode b_M_rewinds 27 = .ok (.aload_n 0, 1) := by decide +kernel
theorem d_M_rewinds_28 : decode b_M_rewinds 28 = .ok (.getfield 7, 3) := by decide +kernel
theorem d_M_rewinds_31 : decode b_M_rewinds 31 = .ok (.iconst 0, 1) := by decide +kernel
theorem d_M_rewinds_32 : decode b_M_rewinds 32 = .ok (.iaload, 1) := by decide +kernel
theorem d_M_rewinds_33 : decode b_M_rewinds 33 = .ok (.invokevirtual 74, 3) := by decide +kernel
theorem d_M_rewinds_36 : decode b_M_rewinds 36 = .ok (.aload_n 0, 1) := by decide +kernel
theorem d_M_rewinds_37 : decode b_M_rewinds 37 = .ok (.getfield 7, 3) := by decide +kernel
theorem d_M_rewinds_40 : decode b_M_rewinds 40 = .ok (.iconst 3, 1) := by decide +kernel
theorem d_M_rewinds_41 : decode b_M_rewinds 41 = .ok (.iaload, 1) := by decide +kernel
theorem d_M_rewinds_42 : decode b_M_rewinds 42 = .ok (.ireturn, 1) := by decide +kernel
theorem d_M_readFault_0 : decode b_M_readFault 0 = .ok (.aload_n 0, 1) := by decide +kernel
theorem d_M_readFault_1 : decode b_M_readFault 1 = .ok (.iload_n 1, 1) := by decide +kernel
theorem d_M_readFault_2 : decode b_M_readFault 2 = .ok (.iload_n 2, 1) := by decide +kernel
theorem d_M_readFault_3 : decode b_M_readFault 3 = .ok (.invokevirtual 78, 3) := by decide +kernel
theorem d_M_readFault_6 : decode b_M_readFault 6 = .ok (.ifCond .ne 7, 3) := by decide +kernel
theorem d_M_readFault_9 : decode b_M_readFault 9 = .ok (.iconst (-1), 1) := by decide +kernel
theorem d_M_readFault_10 : decode b_M_readFault 10 = .ok (.goto 18, 3) := by decide +kernel
theorem d_M_readFault_13 : decode b_M_readFault 13 = .ok (.iload_n 3, 1) := by decide +kernel
theorem d_M_readFault_14 : decode b_M_readFault 14 = .ok (.iconst 0, 1) := by decide +kernel
theorem d_M_readFault_15 : decode b_M_readFault 15 = .ok (.iconst 1, 1) := by decide +kernel
theorem d_M_readFault_16 : decode b_M_readFault 16 = .ok (.invokestatic 26, 3) := by decide +kernel
theorem d_M_readFault_19 : decode b_M_readFault 19 = .ok (.ifCond .eq 7, 3) := by decide +kernel
theorem d_M_readFault_22 : decode b_M_readFault 22 = .ok (.iconst 0, 1) := by decide +kernel
theorem d_M_readFault_23 : decode b_M_readFault 23 = .ok (.goto 5, 3) := by decide +kernel
theorem d_M_readFault_26 : decode b_M_readFault 26 = .ok (.bipush (-2), 2) := by decide +kernel
theorem d_M_readFault_28 : decode b_M_readFault 28 = .ok (.ireturn, 1) := by decide +kernel
theorem d_M_reads_0 : decode b_M_reads 0 = .ok (.aload_n 0, 1) := by decide +kernel
theorem d_M_reads_1 : decode b_M_reads 1 = .ok (.aload_n 0, 1) := by decide +kernel
theorem d_M_reads_2 : decode b_M_reads 2 = .ok (.iload_n 1, 1) := by decide +kernel
theorem d_M_reads_3 : decode b_M_reads 3 = .ok (.iload_n 2, 1) := by decide +kernel
theorem d_M_reads_4 : decode b_M_reads 4 = .ok (.iload_n 3, 1) := by decide +kernel
theorem d_M_reads_5 : decode b_M_reads 5 = .ok (.iconst 1, 1) := by decide +kernel
theorem d_M_reads_6 : decode b_M_reads 6 = .ok (.invokevirtual 66, 3) := by decide +kernel
theorem d_M_reads_9 : decode b_M_reads 9 = .ok (.invokevirtual 74, 3) := by decide +kernel
theorem d_M_reads_12 : decode b_M_reads 12 = .ok (.aload_n 0, 1) := by decide +kernel
theorem d_M_reads_13 : decode b_M_reads 13 = .ok (.aload_n 0, 1) := by decide +kernel
theorem d_M_reads_14 : decode b_M_reads 14 = .ok (.iload_n 1, 1) := by decide +kernel
theorem d_M_reads_15 : decode b_M_reads 15 = .ok (.iload_n 2, 1) := by decide +kernel
theorem d_M_reads_16 : decode b_M_reads 16 = .ok (.iload_n 3, 1) := by decide +kernel
theorem d_M_reads_17 : decode b_M_reads 17 = .ok (.iconst 0, 1) := by decide +kernel
theorem d_M_reads_18 : decode b_M_reads 18 = .ok (.invokevirtual 66, 3) := by decide +kernel
theorem d_M_reads_21 : decode b_M_reads 21 = .ok (.invokevirtual 74, 3) := by decide +kernel
theorem d_M_reads_24 : decode b_M_reads 24 = .ok (.aload_n 0, 1) := by decide +kernel
theorem d_M_reads_25 : decode b_M_reads 25 = .ok (.getfield 7, 3) := by decide +kernel
theorem d_M_reads_28 : decode b_M_reads 28 = .ok (.iload_n 1, 1) := by decide +kernel
theorem d_M_reads_29 : decode b_M_reads 29 = .ok (.iload_n 2, 1) := by decide +kernel
theorem d_M_reads_30 : decode b_M_reads 30 = .ok (.iconst 3, 1) := by decide +kernel
theorem d_M_reads_31 : decode b_M_reads 31 = .ok (.invokestatic 38, 3) := by decide +kernel
theorem d_M_reads_34 : decode b_M_reads 34 = .ok (.dup2, 1) := by decide +kernel
theorem d_M_reads_35 : decode b_M_reads 35 = .ok (.iaload, 1) := by decide +kernel
theorem d_M_reads_36 : decode b_M_reads 36 = .ok (.iconst 1, 1) := by decide +kernel
theorem d_M_reads_37 : decode b_M_reads 37 = .ok (.iadd, 1) := by decide +kernel
theorem d_M_reads_38 : decode b_M_reads 38 = .ok (.iastore, 1) := by decide +kernel
theorem d_M_reads_39 : decode b_M_reads 39 = .ok (.aload_n 0, 1) := by decide +kernel
theorem d_M_reads_40 : decode b_M_reads 40 = .ok (.getfield 7, 3) := by decide +kernel
theorem d_M_reads_43 : decode b_M_reads 43 = .ok (.bipush 7, 2) := by decide +kernel
theorem d_M_reads_45 : decode b_M_reads 45 = .ok (.dup2, 1) := by decide +kernel
theorem d_M_reads_46 : decode b_M_reads 46 = .ok (.iaload, 1) := by decide +kernel
theorem d_M_reads_47 : decode b_M_reads 47 = .ok (.iconst 1, 1) := by decide +kernel
theorem d_M_reads_48 : decode b_M_reads 48 = .ok (.iadd, 1) := by decide +kernel
theorem d_M_reads_49 : decode b_M_reads 49 = .ok (.iastore, 1) := by decide +kernel
theorem d_M_reads_50 : decode b_M_reads 50 = .ok (.aload_n 0, 1) := by decide +kernel
theorem d_M_reads_51 : decode b_M_reads 51 = .ok (.getfield 7, 3) := by decide +kernel
theorem d_M_reads_54 : decode b_M_reads 54 = .ok (.iload_n 1, 1) := by decide +kernel
theorem d_M_reads_55 : decode b_M_reads 55 = .ok (.iload_n 2, 1) := by decide +kernel
theorem d_M_reads_56 : decode b_M_reads 56 = .ok (.iconst 1, 1) := by decide +kernel
theorem d_M_reads_57 : decode b_M_reads 57 = .ok (.invokestatic 38, 3) := by decide +kernel
theorem d_M_reads_60 : decode b_M_reads 60 = .ok (.iaload, 1) := by decide +kernel
theorem d_M_reads_61 : decode b_M_reads 61 = .ok (.iload_n 2, 1) := by decide +kernel
theorem d_M_reads_62 : decode b_M_reads 62 = .ok (.iadd, 1) := by decide +kernel
theorem d_M_reads_63 : decode b_M_reads 63 = .ok (.iload_n 3, 1) := by decide +kernel
theorem d_M_reads_64 : decode b_M_reads 64 = .ok (.iadd, 1) := by decide +kernel
theorem d_M_reads_65 : decode b_M_reads 65 = .ok (.bipush 10, 2) := by decide +kernel
theorem d_M_reads_67 : decode b_M_reads 67 = .ok (.irem, 1) := by decide +kernel
theorem d_M_reads_68 : decode b_M_reads 68 = .ok (.ireturn, 1) := by decide +kernel
theorem d_M_length_0 : decode b_M_length 0 = .ok (.iload_n 1, 1) := by decide +kernel
theorem d_M_length_1 : decode b_M_length 1 = .ok (.bipush 100, 2) := by decide +kernel
theorem d_M_length_3 : decode b_M_length 3 = .ok (.sipush 2000, 3) := by decide +kernel
theorem d_M_length_6 : decode b_M_length 6 = .ok (.invokestatic 26, 3) := by decide +kernel
theorem d_M_length_9 : decode b_M_length 9 = .ok (.ifCond .ne 6, 3) := by decide +kernel
theorem d_M_length_12 : decode b_M_length 12 = .ok (.bipush (-2), 2) := by decide +kernel
theorem d_M_length_14 : decode b_M_length 14 = .ok (.ireturn, 1) := by decide +kernel
theorem d_M_length_15 : decode b_M_length 15 = .ok (.aload_n 0, 1) := by decide +kernel
theorem d_M_length_16 : decode b_M_length 16 = .ok (.getfield 7, 3) := by decide +kernel
theorem d_M_length_19 : decode b_M_length 19 = .ok (.bipush 8, 2) := by decide +kernel
theorem d_M_length_21 : decode b_M_length 21 = .ok (.iaload, 1) := by decide +kernel
theorem d_M_length_22 : decode b_M_length 22 = .ok (.aload_n 0, 1) := by decide +kernel
theorem d_M_length_23 : decode b_M_length 23 = .ok (.getfield 7, 3) := by decide +kernel
theorem d_M_length_26 : decode b_M_length 26 = .ok (.bipush 9, 2) := by decide +kernel
theorem d_M_length_28 : decode b_M_length 28 = .ok (.iaload, 1) := by decide +kernel
theorem d_M_length_29 : decode b_M_length 29 = .ok (.iadd, 1) := by decide +kernel
theorem d_M_length_30 : decode b_M_length 30 = .ok (.ifCond .gt 12, 3) := by decide +kernel
theorem d_M_length_33 : decode b_M_length 33 = .ok (.aload_n 0, 1) := by decide +kernel
theorem d_M_length_34 : decode b_M_length 34 = .ok (.getfield 7, 3) := by decide +kernel
theorem d_M_length_37 : decode b_M_length 37 = .ok (.iconst 4, 1) := by decide +kernel
theorem d_M_length_38 : decode b_M_length 38 = .ok (.iaload, 1) := by decide +kernel
theorem d_M_length_39 : decode b_M_length 39 = .ok (.ifCond .le 6, 3) := by decide +kernel
theorem d_M_length_42 : decode b_M_length 42 = .ok (.bipush (-5), 2) := by decide +kernel
theorem d_M_length_44 : decode b_M_length 44 = .ok (.ireturn, 1) := by decide +kernel
theorem d_M_length_45 : decode b_M_length 45 = .ok (.aload_n 0, 1) := by decide +kernel
theorem d_M_length_46 : decode b_M_length 46 = .ok (.invokevirtual 82, 3) := by decide +kernel
theorem d_M_length_49 : decode b_M_length 49 = .ok (.aload_n 0, 1) := by decide +kernel
theorem d_M_length_50 : decode b_M_length 50 = .ok (.getfield 7, 3) := by decide +kernel
theorem d_M_length_53 : decode b_M_length 53 = .ok (.iconst 0, 1) := by decide +kernel
theorem d_M_length_54 : decode b_M_length 54 = .ok (.iaload, 1) := by decide +kernel
theorem d_M_length_55 : decode b_M_length 55 = .ok (.istore_n 2, 1) := by decide +kernel
theorem d_M_length_56 : decode b_M_length 56 = .ok (.aload_n 0, 1) := by decide +kernel
theorem d_M_length_57 : decode b_M_length 57 = .ok (.getfield 7, 3) := by decide +kernel
theorem d_M_length_60 : decode b_M_length 60 = .ok (.iconst 0, 1) := by decide +kernel
theorem d_M_length_61 : decode b_M_length 61 = .ok (.iload_n 1, 1) := by decide +kernel
theorem d_M_length_62 : decode b_M_length 62 = .ok (.iastore, 1) := by decide +kernel
theorem d_M_length_63 : decode b_M_length 63 = .ok (.aload_n 0, 1) := by decide +kernel
theorem d_M_length_64 : decode b_M_length 64 = .ok (.getfield 7, 3) := by decide +kernel
theorem d_M_length_67 : decode b_M_length 67 = .ok (.iconst 3, 1) := by decide +kernel
theorem d_M_length_68 : decode b_M_length 68 = .ok (.aload_n 0, 1) := by decide +kernel
theorem d_M_length_69 : decode b_M_length 69 = .ok (.getfield 7, 3) := by decide +kernel
theorem d_M_length_72 : decode b_M_length 72 = .ok (.iconst 3, 1) := by decide +kernel
theorem d_M_length_73 : decode b_M_length 73 = .ok (.iaload, 1) := by decide +kernel
theorem d_M_length_74 : decode b_M_length 74 = .ok (.iload_n 1, 1) := by decide +kernel
theorem d_M_length_75 : decode b_M_length 75 = .ok (.if_icmp .le 7, 3) := by decide +kernel
theorem d_M_length_78 : decode b_M_length 78 = .ok (.iload_n 1, 1) := by decide +kernel
theorem d_M_length_79 : decode b_M_length 79 = .ok (.goto 9, 3) := by decide +kernel
theorem d_M_length_82 : decode b_M_length 82 = .ok (.aload_n 0, 1) := by decide +kernel
theorem d_M_length_83 : decode b_M_length 83 = .ok (.getfield 7, 3) := by decide +kernel
theorem d_M_length_86 : decode b_M_length 86 = .ok (.iconst 3, 1) := by decide +kernel
theorem d_M_length_87 : decode b_M_length 87 = .ok (.iaload, 1) := by decide +kernel
theorem d_M_length_88 : decode b_M_length 88 = .ok (.iastore, 1) := by decide +kernel
theorem d_M_length_89 : decode b_M_length 89 = .ok (.iload_n 2, 1) := by decide +kernel
theorem d_M_length_90 : decode b_M_length 90 = .ok (.ireturn, 1) := by decide +kernel
theorem d_M_tune_0 : decode b_M_tune 0 = .ok (.iload_n 1, 1) := by decide +kernel
theorem d_M_tune_1 : decode b_M_tune 1 = .ok (.iconst 1, 1) := by decide +kernel
theorem d_M_tune_2 : decode b_M_tune 2 = .ok (.bipush 99, 2) := by decide +kernel
theorem d_M_tune_4 : decode b_M_tune 4 = .ok (.invokestatic 26, 3) := by decide +kernel
theorem d_M_tune_7 : decode b_M_tune 7 = .ok (.ifCond .eq 13, 3) := by decide +kernel
theorem d_M_tune_10 : decode b_M_tune 10 = .ok (.iload_n 2, 1) := by decide +kernel
theorem d_M_tune_11 : decode b_M_tune 11 = .ok (.iconst 1, 1) := by decide +kernel
theorem d_M_tune_12 : decode b_M_tune 12 = .ok (.bipush 9, 2) := by decide +kernel
theorem d_M_tune_14 : decode b_M_tune 14 = .ok (.invokestatic 26, 3) := by decide +kernel
theorem d_M_tune_17 : decode b_M_tune 17 = .ok (.ifCond .ne 6, 3) := by decide +kernel
theorem d_M_tune_20 : decode b_M_tune 20 = .ok (.bipush (-2), 2) := by decide +kernel
theorem d_M_tune_22 : decode b_M_tune 22 = .ok (.ireturn, 1) := by decide +kernel
theorem d_M_tune_23 : decode b_M_tune 23 = .ok (.aload_n 0, 1) := by decide +kernel
theorem d_M_tune_24 : decode b_M_tune 24 = .ok (.invokevirtual 70, 3) := by decide +kernel
theorem d_M_tune_27 : decode b_M_tune 27 = .ok (.iload_n 1, 1) := by decide +kernel
theorem d_M_tune_28 : decode b_M_tune 28 = .ok (.if_icmp .ge 6, 3) := by decide +kernel
theorem d_M_tune_31 : decode b_M_tune 31 = .ok (.bipush (-5), 2) := by decide +kernel
theorem d_M_tune_33 : decode b_M_tune 33 = .ok (.ireturn, 1) := by decide +kernel
theorem d_M_tune_34 : decode b_M_tune 34 = .ok (.aload_n 0, 1) := by decide +kernel
theorem d_M_tune_35 : decode b_M_tune 35 = .ok (.invokevirtual 82, 3) := by decide +kernel
theorem d_M_tune_38 : decode b_M_tune 38 = .ok (.aload_n 0, 1) := by decide +kernel
theorem d_M_tune_39 : decode b_M_tune 39 = .ok (.getfield 7, 3) := by decide +kernel
theorem d_M_tune_42 : decode b_M_tune 42 = .ok (.iconst 1, 1) := by decide +kernel
theorem d_M_tune_43 : decode b_M_tune 43 = .ok (.iaload, 1) := by decide +kernel
theorem d_M_tune_44 : decode b_M_tune 44 = .ok (.bipush 100, 2) := by decide +kernel
theorem d_M_tune_46 : decode b_M_tune 46 = .ok (.aload_n 0, 1) := by decide +kernel
theorem d_M_tune_47 : decode b_M_tune 47 = .ok (.getfield 7, 3) := by decide +kernel
theorem d_M_tune_50 : decode b_M_tune 50 = .ok (.iconst 2, 1) := by decide +kernel
theorem d_M_tune_51 : decode b_M_tune 51 = .ok (.iaload, 1) := by decide +kernel
theorem d_M_tune_52 : decode b_M_tune 52 = .ok (.imul, 1) := by decide +kernel
theorem d_M_tune_53 : decode b_M_tune 53 = .ok (.iadd, 1) := by decide +kernel
theorem d_M_tune_54 : decode b_M_tune 54 = .ok (.istore_n 3, 1) := by decide +kernel
theorem d_M_tune_55 : decode b_M_tune 55 = .ok (.aload_n 0, 1) := by decide +kernel
theorem d_M_tune_56 : decode b_M_tune 56 = .ok (.getfield 7, 3) := by decide +kernel
theorem d_M_tune_59 : decode b_M_tune 59 = .ok (.iconst 1, 1) := by decide +kernel
theorem d_M_tune_60 : decode b_M_tune 60 = .ok (.iload_n 1, 1) := by decide +kernel
theorem d_M_tune_61 : decode b_M_tune 61 = .ok (.iastore, 1) := by decide +kernel
theorem d_M_tune_62 : decode b_M_tune 62 = .ok (.aload_n 0, 1) := by decide +kernel
theorem d_M_tune_63 : decode b_M_tune 63 = .ok (.getfield 7, 3) := by decide +kernel
theorem d_M_tune_66 : decode b_M_tune 66 = .ok (.iconst 2, 1) := by decide +kernel
theorem d_M_tune_67 : decode b_M_tune 67 = .ok (.iload_n 2, 1) := by decide +kernel
theorem d_M_tune_68 : decode b_M_tune 68 = .ok (.iastore, 1) := by decide +kernel
theorem d_M_tune_69 : decode b_M_tune 69 = .ok (.iload_n 3, 1) := by decide +kernel
theorem d_M_tune_70 : decode b_M_tune 70 = .ok (.ireturn, 1) := by decide +kernel
theorem d_M_write_0 : decode b_M_write 0 = .ok (.aload_n 0, 1) := by decide +kernel
theorem d_M_write_1 : decode b_M_write 1 = .ok (.iload_n 1, 1) := by decide +kernel
theorem d_M_write_2 : decode b_M_write 2 = .ok (.iload_n 2, 1) := by decide +kernel
theorem d_M_write_3 : decode b_M_write 3 = .ok (.iload_n 3, 1) := by decide +kernel
theorem d_M_write_4 : decode b_M_write 4 = .ok (.invokevirtual 85, 3) := by decide +kernel
theorem d_M_write_7 : decode b_M_write 7 = .ok (.istore 4, 2) := by decide +kernel
theorem d_M_write_9 : decode b_M_write 9 = .ok (.iload 4, 2) := by decide +kernel
theorem d_M_write_11 : decode b_M_write 11 = .ok (.ifCond .ge 6, 3) := by decide +kernel
theorem d_M_write_14 : decode b_M_write 14 = .ok (.iload 4, 2) := by decide +kernel
theorem d_M_write_16 : decode b_M_write 16 = .ok (.ireturn, 1) := by decide +kernel
theorem d_M_write_17 : decode b_M_write 17 = .ok (.aload_n 0, 1) := by decide +kernel
theorem d_M_write_18 : decode b_M_write 18 = .ok (.invokevirtual 82, 3) := by decide +kernel
theorem d_M_write_21 : decode b_M_write 21 = .ok (.aload_n 0, 1) := by decide +kernel
theorem d_M_write_22 : decode b_M_write 22 = .ok (.iload_n 1, 1) := by decide +kernel
theorem d_M_write_23 : decode b_M_write 23 = .ok (.iload_n 2, 1) := by decide +kernel
theorem d_M_write_24 : decode b_M_write 24 = .ok (.iload_n 3, 1) := by decide +kernel
theorem d_M_write_25 : decode b_M_write 25 = .ok (.invokevirtual 88, 3) := by decide +kernel
theorem d_M_write_28 : decode b_M_write 28 = .ok (.ireturn, 1) := by decide +kernel
theorem d_M_cut_0 : decode b_M_cut 0 = .ok (.aload_n 0, 1) := by decide +kernel
theorem d_M_cut_1 : decode b_M_cut 1 = .ok (.iload_n 1, 1) := by decide +kernel
theorem d_M_cut_2 : decode b_M_cut 2 = .ok (.iload_n 2, 1) := by decide +kernel
theorem d_M_cut_3 : decode b_M_cut 3 = .ok (.invokevirtual 91, 3) := by decide +kernel
theorem d_M_cut_6 : decode b_M_cut 6 = .ok (.istore_n 3, 1) := by decide +kernel
theorem d_M_cut_7 : decode b_M_cut 7 = .ok (.iload_n 3, 1) := by decide +kernel
theorem d_M_cut_8 : decode b_M_cut 8 = .ok (.ifCond .ge 5, 3) := by decide +kernel
theorem d_M_cut_11 : decode b_M_cut 11 = .ok (.iload_n 3, 1) := by decide +kernel
theorem d_M_cut_12 : decode b_M_cut 12 = .ok (.ireturn, 1) := by decide +kernel
theorem d_M_cut_13 : decode b_M_cut 13 = .ok (.aload_n 0, 1) := by decide +kernel
theorem d_M_cut_14 : decode b_M_cut 14 = .ok (.invokevirtual 82, 3) := by decide +kernel
theorem d_M_cut_17 : decode b_M_cut 17 = .ok (.aload_n 0, 1) := by decide +kernel
theorem d_M_cut_18 : decode b_M_cut 18 = .ok (.iload_n 1, 1) := by decide +kernel
theorem d_M_cut_19 : decode b_M_cut 19 = .ok (.iload_n 2, 1) := by decide +kernel
theorem d_M_cut_20 : decode b_M_cut 20 = .ok (.invokevirtual 94, 3) := by decide +kernel
theorem d_M_cut_23 : decode b_M_cut 23 = .ok (.ireturn, 1) := by decide +kernel
theorem d_M_move_0 : decode b_M_move 0 = .ok (.iload_n 1, 1) := by decide +kernel
theorem d_M_move_1 : decode b_M_move 1 = .ok (.iconst 0, 1) := by decide +kernel
theorem d_M_move_2 : decode b_M_move 2 = .ok (.aload_n 0, 1) := by decide +kernel
theorem d_M_move_3 : decode b_M_move 3 = .ok (.getfield 7, 3) := by decide +kernel
theorem d_M_move_6 : decode b_M_move 6 = .ok (.iconst 0, 1) := by decide +kernel
theorem d_M_move_7 : decode b_M_move 7 = .ok (.iaload, 1) := by decide +kernel
theorem d_M_move_8 : decode b_M_move 8 = .ok (.invokestatic 26, 3) := by decide +kernel
theorem d_M_move_11 : decode b_M_move 11 = .ok (.ifCond .ne 6, 3) := by decide +kernel
theorem d_M_move_14 : decode b_M_move 14 = .ok (.bipush (-2), 2) := by decide +kernel
theorem d_M_move_16 : decode b_M_move 16 = .ok (.ireturn, 1) := by decide +kernel
theorem d_M_move_17 : decode b_M_move 17 = .ok (.aload_n 0, 1) := by decide +kernel
theorem d_M_move_18 : decode b_M_move 18 = .ok (.invokevirtual 82, 3) := by decide +kernel
theorem d_M_move_21 : decode b_M_move 21 = .ok (.aload_n 0, 1) := by decide +kernel
theorem d_M_move_22 : decode b_M_move 22 = .ok (.iload_n 1, 1) := by decide +kernel
theorem d_M_move_23 : decode b_M_move 23 = .ok (.invokevirtual 97, 3) := by decide +kernel
theorem d_M_move_26 : decode b_M_move 26 = .ok (.ireturn, 1) := by decide +kernel
theorem d_M_rewind_0 : decode b_M_rewind 0 = .ok (.aload_n 0, 1) := by decide +kernel
theorem d_M_rewind_1 : decode b_M_rewind 1 = .ok (.invokevirtual 82, 3) := by decide +kernel
theorem d_M_rewind_4 : decode b_M_rewind 4 = .ok (.aload_n 0, 1) := by decide +kernel
theorem d_M_rewind_5 : decode b_M_rewind 5 = .ok (.invokevirtual 100, 3) := by decide +kernel
theorem d_M_rewind_8 : decode b_M_rewind 8 = .ok (.ireturn, 1) := by decide +kernel
theorem d_M_read_0 : decode b_M_read 0 = .ok (.aload_n 0, 1) := by decide +kernel
theorem d_M_read_1 : decode b_M_read 1 = .ok (.iload_n 1, 1) := by decide +kernel
theorem d_M_read_2 : decode b_M_read 2 = .ok (.iload_n 2, 1) := by decide +kernel
theorem d_M_read_3 : decode b_M_read 3 = .ok (.iload_n 3, 1) := by decide +kernel
theorem d_M_read_4 : decode b_M_read 4 = .ok (.invokevirtual 103, 3) := by decide +kernel
theorem d_M_read_7 : decode b_M_read 7 = .ok (.istore 4, 2) := by decide +kernel
theorem d_M_read_9 : decode b_M_read 9 = .ok (.iload 4, 2) := by decide +kernel
theorem d_M_read_11 : decode b_M_read 11 = .ok (.ifCond .ge 6, 3) := by decide +kernel
theorem d_M_read_14 : decode b_M_read 14 = .ok (.iload 4, 2) := by decide +kernel
theorem d_M_read_16 : decode b_M_read 16 = .ok (.ireturn, 1) := by decide +kernel
theorem d_M_read_17 : decode b_M_read 17 = .ok (.aload_n 0, 1) := by decide +kernel
theorem d_M_read_18 : decode b_M_read 18 = .ok (.invokevirtual 82, 3) := by decide +kernel
theorem d_M_read_21 : decode b_M_read 21 = .ok (.aload_n 0, 1) := by decide +kernel
theorem d_M_read_22 : decode b_M_read 22 = .ok (.iload_n 1, 1) := by decide +kernel
theorem d_M_read_23 : decode b_M_read 23 = .ok (.iload_n 2, 1) := by decide +kernel
theorem d_M_read_24 : decode b_M_read 24 = .ok (.iload_n 3, 1) := by decide +kernel
theorem d_M_read_25 : decode b_M_read 25 = .ok (.invokevirtual 106, 3) := by decide +kernel
theorem d_M_read_28 : decode b_M_read 28 = .ok (.ireturn, 1) := by decide +kernel
theorem d_M_within_0 : decode b_M_within 0 = .ok (.iload_n 1, 1) := by decide +kernel
theorem d_M_within_1 : decode b_M_within 1 = .ok (.aload_n 0, 1) := by decide +kernel
theorem d_M_within_2 : decode b_M_within 2 = .ok (.iconst 0, 1) := by decide +kernel
theorem d_M_within_3 : decode b_M_within 3 = .ok (.invokevirtual 53, 3) := by decide +kernel
theorem d_M_within_6 : decode b_M_within 6 = .ok (.if_icmp .lt 14, 3) := by decide +kernel
theorem d_M_within_9 : decode b_M_within 9 = .ok (.iload_n 2, 1) := by decide +kernel
theorem d_M_within_10 : decode b_M_within 10 = .ok (.aload_n 0, 1) := by decide +kernel
theorem d_M_within_11 : decode b_M_within 11 = .ok (.iconst 1, 1) := by decide +kernel
theorem d_M_within_12 : decode b_M_within 12 = .ok (.invokevirtual 53, 3) := by decide +kernel
theorem d_M_within_15 : decode b_M_within 15 = .ok (.if_icmp .ge 5, 3) := by decide +kernel
theorem d_M_within_18 : decode b_M_within 18 = .ok (.iconst (-1), 1) := by decide +kernel
theorem d_M_within_19 : decode b_M_within 19 = .ok (.ireturn, 1) := by decide +kernel
theorem d_M_within_20 : decode b_M_within 20 = .ok (.iconst 0, 1) := by decide +kernel
theorem d_M_within_21 : decode b_M_within 21 = .ok (.istore_n 3, 1) := by decide +kernel
theorem d_M_within_22 : decode b_M_within 22 = .ok (.iload_n 3, 1) := by decide +kernel
theorem d_M_within_23 : decode b_M_within 23 = .ok (.bipush 40, 2) := by decide +kernel
theorem d_M_within_25 : decode b_M_within 25 = .ok (.if_icmp .ge 83, 3) := by decide +kernel
theorem d_M_within_28 : decode b_M_within 28 = .ok (.iload_n 3, 1) := by decide +kernel
theorem d_M_within_29 : decode b_M_within 29 = .ok (.bipush 20, 2) := by decide +kernel
theorem d_M_within_31 : decode b_M_within 31 = .ok (.idiv, 1) := by decide +kernel
theorem d_M_within_32 : decode b_M_within 32 = .ok (.istore 4, 2) := by decide +kernel
theorem d_M_within_34 : decode b_M_within 34 = .ok (.iload_n 3, 1) := by decide +kernel
theorem d_M_within_35 : decode b_M_within 35 = .ok (.bipush 20, 2) := by decide +kernel
theorem d_M_within_37 : decode b_M_within 37 = .ok (.irem, 1) := by decide +kernel
theorem d_M_within_38 : decode b_M_within 38 = .ok (.istore 5, 2) := by decide +kernel
theorem d_M_within_40 : decode b_M_within 40 = .ok (.iload 5, 2) := by decide +kernel
theorem d_M_within_42 : decode b_M_within 42 = .ok (.aload_n 0, 1) := by decide +kernel
theorem d_M_within_43 : decode b_M_within 43 = .ok (.getfield 7, 3) := by decide +kernel
theorem d_M_within_46 : decode b_M_within 46 = .ok (.bipush 8, 2) := by decide +kernel
theorem d_M_within_48 : decode b_M_within 48 = .ok (.iload 4, 2) := by decide +kernel
theorem d_M_within_50 : decode b_M_within 50 = .ok (.iadd, 1) := by decide +kernel
theorem d_M_within_51 : decode b_M_within 51 = .ok (.iaload, 1) := by decide +kernel
theorem d_M_within_52 : decode b_M_within 52 = .ok (.if_icmp .ge 50, 3) := by decide +kernel
theorem d_M_within_55 : decode b_M_within 55 = .ok (.aload_n 0, 1) := by decide +kernel
theorem d_M_within_56 : decode b_M_within 56 = .ok (.getfield 7, 3) := by decide +kernel
theorem d_M_within_59 : decode b_M_within 59 = .ok (.iload 4, 2) := by decide +kernel
theorem d_M_within_61 : decode b_M_within 61 = .ok (.iload 5, 2) := by decide +kernel
theorem d_M_within_63 : decode b_M_within 63 = .ok (.iconst 2, 1) := by decide +kernel
theorem d_M_within_64 : decode b_M_within 64 = .ok (.invokestatic 38, 3) := by decide +kernel
theorem d_M_within_67 : decode b_M_within 67 = .ok (.iaload, 1) := by decide +kernel
theorem d_M_within_68 : decode b_M_within 68 = .ok (.istore 6, 2) := by decide +kernel
theorem d_M_within_70 : decode b_M_within 70 = .ok (.iload_n 1, 1) := by decide +kernel
theorem d_M_within_71 : decode b_M_within 71 = .ok (.aload_n 0, 1) := by decide +kernel
theorem d_M_within_72 : decode b_M_within 72 = .ok (.iload 4, 2) := by decide +kernel
theorem d_M_within_74 : decode b_M_within 74 = .ok (.iload 5, 2) := by decide +kernel
theorem d_M_within_76 : decode b_M_within 76 = .ok (.invokevirtual 56, 3) := by decide +kernel
theorem d_M_within_79 : decode b_M_within 79 = .ok (.iload 6, 2) := by decide +kernel
theorem d_M_within_81 : decode b_M_within 81 = .ok (.iadd, 1) := by decide +kernel
theorem d_M_within_82 : decode b_M_within 82 = .ok (.if_icmp .lt 20, 3) := by decide +kernel
theorem d_M_within_85 : decode b_M_within 85 = .ok (.iload_n 2, 1) := by decide +kernel
theorem d_M_within_86 : decode b_M_within 86 = .ok (.aload_n 0, 1) := by decide +kernel
theorem d_M_within_87 : decode b_M_within 87 = .ok (.iload 4, 2) := by decide +kernel
theorem d_M_within_89 : decode b_M_within 89 = .ok (.iload 5, 2) := by decide +kernel
theorem d_M_within_91 : decode b_M_within 91 = .ok (.invokevirtual 63, 3) := by decide +kernel
theorem d_M_within_94 : decode b_M_within 94 = .ok (.iload 6, 2) := by decide +kernel
theorem d_M_within_96 : decode b_M_within 96 = .ok (.isub, 1) := by decide +kernel
theorem d_M_within_97 : decode b_M_within 97 = .ok (.if_icmp .ge 5, 3) := by decide +kernel
theorem d_M_within_100 : decode b_M_within 100 = .ok (.iload_n 3, 1) := by decide +kernel
theorem d_M_within_101 : decode b_M_within 101 = .ok (.ireturn, 1) := by decide +kernel
theorem d_M_within_102 : decode b_M_within 102 = .ok (.iinc 3 1, 3) := by decide +kernel
theorem d_M_within_105 : decode b_M_within 105 = .ok (.goto (-83), 3) := by decide +kernel
theorem d_M_within_108 : decode b_M_within 108 = .ok (.bipush (-6), 2) := by decide +kernel
theorem d_M_within_110 : decode b_M_within 110 = .ok (.ireturn, 1) := by decide +kernel
theorem d_M_splice_0 : decode b_M_splice 0 = .ok (.iload_n 1, 1) := by decide +kernel
theorem d_M_splice_1 : decode b_M_splice 1 = .ok (.iconst 0, 1) := by decide +kernel
theorem d_M_splice_2 : decode b_M_splice 2 = .ok (.aload_n 0, 1) := by decide +kernel
theorem d_M_splice_3 : decode b_M_splice 3 = .ok (.getfield 7, 3) := by decide +kernel
theorem d_M_splice_6 : decode b_M_splice 6 = .ok (.iconst 0, 1) := by decide +kernel
theorem d_M_splice_7 : decode b_M_splice 7 = .ok (.iaload, 1) := by decide +kernel
theorem d_M_splice_8 : decode b_M_splice 8 = .ok (.iconst 1, 1) := by decide +kernel
theorem d_M_splice_9 : decode b_M_splice 9 = .ok (.isub, 1) := by decide +kernel
theorem d_M_splice_10 : decode b_M_splice 10 = .ok (.invokestatic 26, 3) := by decide +kernel
theorem d_M_splice_13 : decode b_M_splice 13 = .ok (.ifCond .eq 13, 3) := by decide +kernel
theorem d_M_splice_16 : decode b_M_splice 16 = .ok (.iload_n 2, 1) := by decide +kernel
theorem d_M_splice_17 : decode b_M_splice 17 = .ok (.iconst 1, 1) := by decide +kernel
theorem d_M_splice_18 : decode b_M_splice 18 = .ok (.bipush 50, 2) := by decide +kernel
theorem d_M_splice_20 : decode b_M_splice 20 = .ok (.invokestatic 26, 3) := by decide +kernel
theorem d_M_splice_23 : decode b_M_splice 23 = .ok (.ifCond .ne 6, 3) := by decide +kernel
theorem d_M_splice_26 : decode b_M_splice 26 = .ok (.bipush (-2), 2) := by decide +kernel
theorem d_M_splice_28 : decode b_M_splice 28 = .ok (.ireturn, 1) := by decide +kernel
theorem d_M_splice_29 : decode b_M_splice 29 = .ok (.iload_n 2, 1) := by decide +kernel
theorem d_M_splice_30 : decode b_M_splice 30 = .ok (.iconst 1, 1) := by decide +kernel
theorem d_M_splice_31 : decode b_M_splice 31 = .ok (.iadd, 1) := by decide +kernel
theorem d_M_splice_32 : decode b_M_splice 32 = .ok (.istore_n 3, 1) := by decide +kernel
theorem d_M_splice_33 : decode b_M_splice 33 = .ok (.aload_n 0, 1) := by decide +kernel
theorem d_M_splice_34 : decode b_M_splice 34 = .ok (.iload_n 1, 1) := by decide +kernel
theorem d_M_splice_35 : decode b_M_splice 35 = .ok (.iload_n 1, 1) := by decide +kernel
theorem d_M_splice_36 : decode b_M_splice 36 = .ok (.iload_n 2, 1) := by decide +kernel
theorem d_M_splice_37 : decode b_M_splice 37 = .ok (.iadd, 1) := by decide +kernel
theorem d_M_splice_38 : decode b_M_splice 38 = .ok (.invokevirtual 109, 3) := by decide +kernel
theorem d_M_splice_41 : decode b_M_splice 41 = .ok (.istore 4, 2) := by decide +kernel
theorem d_M_splice_43 : decode b_M_splice 43 = .ok (.iload 4, 2) := by decide +kernel
theorem d_M_splice_45 : decode b_M_splice 45 = .ok (.bipush (-6), 2) := by decide +kernel
theorem d_M_splice_47 : decode b_M_splice 47 = .ok (.if_icmp .ne 6, 3) := by decide +kernel
theorem d_M_splice_50 : decode b_M_splice 50 = .ok (.bipush (-5), 2) := by decide +kernel
theorem d_M_splice_52 : decode b_M_splice 52 = .ok (.ireturn, 1) := by decide +kernel
theorem d_M_splice_53 : decode b_M_splice 53 = .ok (.iload 4, 2) := by decide +kernel
theorem d_M_splice_55 : decode b_M_splice 55 = .ok (.ifCond .ge 7, 3) := by decide +kernel
theorem d_M_splice_58 : decode b_M_splice 58 = .ok (.iconst 0, 1) := by decide +kernel
theorem d_M_splice_59 : decode b_M_splice 59 = .ok (.goto 17, 3) := by decide +kernel
theorem d_M_splice_62 : decode b_M_splice 62 = .ok (.iload 4, 2) := by decide +kernel
theorem d_M_splice_64 : decode b_M_splice 64 = .ok (.bipush 20, 2) := by decide +kernel
theorem d_M_splice_66 : decode b_M_splice 66 = .ok (.idiv, 1) := by decide +kernel
theorem d_M_splice_67 : decode b_M_splice 67 = .ok (.iload 4, 2) := by decide +kernel
theorem d_M_splice_69 : decode b_M_splice 69 = .ok (.bipush 20, 2) := by decide +kernel
theorem d_M_splice_71 : decode b_M_splice 71 = .ok (.irem, 1) := by decide +kernel
theorem d_M_splice_72 : decode b_M_splice 72 = .ok (.iconst 0, 1) := by decide +kernel
theorem d_M_splice_73 : decode b_M_splice 73 = .ok (.invokestatic 38, 3) := by decide +kernel
theorem d_M_splice_76 : decode b_M_splice 76 = .ok (.istore 5, 2) := by decide +kernel
theorem d_M_splice_78 : decode b_M_splice 78 = .ok (.iload 4, 2) := by decide +kernel
theorem d_M_splice_80 : decode b_M_splice 80 = .ok (.ifCond .ge 21, 3) := by decide +kernel
theorem d_M_splice_83 : decode b_M_splice 83 = .ok (.aload_n 0, 1) := by decide +kernel
theorem d_M_splice_84 : decode b_M_splice 84 = .ok (.invokevirtual 70, 3) := by decide +kernel
theorem d_M_splice_87 : decode b_M_splice 87 = .ok (.iload_n 3, 1) := by decide +kernel
theorem d_M_splice_88 : decode b_M_splice 88 = .ok (.isub, 1) := by decide +kernel
theorem d_M_splice_89 : decode b_M_splice 89 = .ok (.aload_n 0, 1) := by decide +kernel
theorem d_M_splice_90 : decode b_M_splice 90 = .ok (.getfield 7, 3) := by decide +kernel
theorem d_M_splice_93 : decode b_M_splice 93 = .ok (.iconst 1, 1) := by decide +kernel
theorem d_M_splice_94 : decode b_M_splice 94 = .ok (.iaload, 1) := by decide +kernel
theorem d_M_splice_95 : decode b_M_splice 95 = .ok (.if_icmp .ge 22, 3) := by decide +kernel
theorem d_M_splice_98 : decode b_M_splice 98 = .ok (.goto 16, 3) := by decide +kernel
theorem d_M_splice_101 : decode b_M_splice 101 = .ok (.aload_n 0, 1) := by decide +kernel
theorem d_M_splice_102 : decode b_M_splice 102 = .ok (.getfield 7, 3) := by decide +kernel
theorem d_M_splice_105 : decode b_M_splice 105 = .ok (.iload 5, 2) := by decide +kernel
theorem d_M_splice_107 : decode b_M_splice 107 = .ok (.iaload, 1) := by decide +kernel
theorem d_M_splice_108 : decode b_M_splice 108 = .ok (.iload_n 3, 1) := by decide +kernel
theorem d_M_splice_109 : decode b_M_splice 109 = .ok (.isub, 1) := by decide +kernel
theorem d_M_splice_110 : decode b_M_splice 110 = .ok (.iconst 1, 1) := by decide +kernel
theorem d_M_splice_111 : decode b_M_splice 111 = .ok (.if_icmp .ge 6, 3) := by decide +kernel
theorem d_M_splice_114 : decode b_M_splice 114 = .ok (.bipush (-5), 2) := by decide +kernel
theorem d_M_splice_116 : decode b_M_splice 116 = .ok (.ireturn, 1) := by decide +kernel
theorem d_M_splice_117 : decode b_M_splice 117 = .ok (.aload_n 0, 1) := by decide +kernel
theorem d_M_splice_118 : decode b_M_splice 118 = .ok (.getfield 7, 3) := by decide +kernel
theorem d_M_splice_121 : decode b_M_splice 121 = .ok (.iconst 4, 1) := by decide +kernel
theorem d_M_splice_122 : decode b_M_splice 122 = .ok (.iaload, 1) := by decide +kernel
theorem d_M_splice_123 : decode b_M_splice 123 = .ok (.bipush 9, 2) := by decide +kernel
theorem d_M_splice_125 : decode b_M_splice 125 = .ok (.if_icmp .ne 6, 3) := by decide +kernel
theorem d_M_splice_128 : decode b_M_splice 128 = .ok (.bipush (-4), 2) := by decide +kernel
theorem d_M_splice_130 : decode b_M_splice 130 = .ok (.ireturn, 1) := by decide +kernel
theorem d_M_splice_131 : decode b_M_splice 131 = .ok (.aload_n 0, 1) := by decide +kernel
theorem d_M_splice_132 : decode b_M_splice 132 = .ok (.invokevirtual 82, 3) := by decide +kernel
theorem d_M_splice_135 : decode b_M_splice 135 = .ok (.iload 4, 2) := by decide +kernel
theorem d_M_splice_137 : decode b_M_splice 137 = .ok (.ifCond .lt 24, 3) := by decide +kernel
theorem d_M_splice_140 : decode b_M_splice 140 = .ok (.aload_n 0, 1) := by decide +kernel
theorem d_M_splice_141 : decode b_M_splice 141 = .ok (.getfield 7, 3) := by decide +kernel
theorem d_M_splice_144 : decode b_M_splice 144 = .ok (.iload 5, 2) := by decide +kernel
theorem d_M_splice_146 : decode b_M_splice 146 = .ok (.dup2, 1) := by decide +kernel
theorem d_M_splice_147 : decode b_M_splice 147 = .ok (.iaload, 1) := by decide +kernel
theorem d_M_splice_148 : decode b_M_splice 148 = .ok (.iload_n 3, 1) := by decide +kernel
theorem d_M_splice_149 : decode b_M_splice 149 = .ok (.isub, 1) := by decide +kernel
theorem d_M_splice_150 : decode b_M_splice 150 = .ok (.iastore, 1) := by decide +kernel
theorem d_M_splice_151 : decode b_M_splice 151 = .ok (.aload_n 0, 1) := by decide +kernel
theorem d_M_splice_152 : decode b_M_splice 152 = .ok (.getfield 7, 3) := by decide +kernel
theorem d_M_splice_155 : decode b_M_splice 155 = .ok (.iload 5, 2) := by decide +kernel
theorem d_M_splice_157 : decode b_M_splice 157 = .ok (.iconst 1, 1) := by decide +kernel
theorem d_M_splice_158 : decode b_M_splice 158 = .ok (.iadd, 1) := by decide +kernel
theorem d_M_splice_159 : decode b_M_splice 159 = .ok (.iconst 0, 1) := by decide +kernel
theorem d_M_splice_160 : decode b_M_splice 160 = .ok (.iastore, 1) := by decide +kernel
theorem d_M_splice_161 : decode b_M_splice 161 = .ok (.aload_n 0, 1) := by decide +kernel
theorem d_M_splice_162 : decode b_M_splice 162 = .ok (.getfield 7, 3) := by decide +kernel
theorem d_M_splice_165 : decode b_M_splice 165 = .ok (.iconst 0, 1) := by decide +kernel
theorem d_M_splice_166 : decode b_M_splice 166 = .ok (.dup2, 1) := by decide +kernel
theorem d_M_splice_167 : decode b_M_splice 167 = .ok (.iaload, 1) := by decide +kernel
theorem d_M_splice_168 : decode b_M_splice 168 = .ok (.iload_n 3, 1) := by decide +kernel
theorem d_M_splice_169 : decode b_M_splice 169 = .ok (.isub, 1) := by decide +kernel
theorem d_M_splice_170 : decode b_M_splice 170 = .ok (.iastore, 1) := by decide +kernel
theorem d_M_splice_171 : decode b_M_splice 171 = .ok (.aload_n 0, 1) := by decide +kernel
theorem d_M_splice_172 : decode b_M_splice 172 = .ok (.getfield 7, 3) := by decide +kernel
theorem d_M_splice_175 : decode b_M_splice 175 = .ok (.iconst 4, 1) := by decide +kernel
theorem d_M_splice_176 : decode b_M_splice 176 = .ok (.dup2, 1) := by decide +kernel
theorem d_M_splice_177 : decode b_M_splice 177 = .ok (.iaload, 1) := by decide +kernel
theorem d_M_splice_178 : decode b_M_splice 178 = .ok (.iconst 1, 1) := by decide +kernel
theorem d_M_splice_179 : decode b_M_splice 179 = .ok (.iadd, 1) := by decide +kernel
theorem d_M_splice_180 : decode b_M_splice 180 = .ok (.iastore, 1) := by decide +kernel
theorem d_M_splice_181 : decode b_M_splice 181 = .ok (.aload_n 0, 1) := by decide +kernel
theorem d_M_splice_182 : decode b_M_splice 182 = .ok (.getfield 7, 3) := by decide +kernel
theorem d_M_splice_185 : decode b_M_splice 185 = .ok (.iconst 5, 1) := by decide +kernel
theorem d_M_splice_186 : decode b_M_splice 186 = .ok (.dup2, 1) := by decide +kernel
theorem d_M_splice_187 : decode b_M_splice 187 = .ok (.iaload, 1) := by decide +kernel
theorem d_M_splice_188 : decode b_M_splice 188 = .ok (.iload_n 3, 1) := by decide +kernel
theorem d_M_splice_189 : decode b_M_splice 189 = .ok (.iadd, 1) := by decide +kernel
theorem d_M_splice_190 : decode b_M_splice 190 = .ok (.iastore, 1) := by decide +kernel
theorem d_M_splice_191 : decode b_M_splice 191 = .ok (.aload_n 0, 1) := by decide +kernel
theorem d_M_splice_192 : decode b_M_splice 192 = .ok (.getfield 7, 3) := by decide +kernel
theorem d_M_splice_195 : decode b_M_splice 195 = .ok (.iconst 3, 1) := by decide +kernel
theorem d_M_splice_196 : decode b_M_splice 196 = .ok (.iaload, 1) := by decide +kernel
theorem d_M_splice_197 : decode b_M_splice 197 = .ok (.iload_n 1, 1) := by decide +kernel
theorem d_M_splice_198 : decode b_M_splice 198 = .ok (.isub, 1) := by decide +kernel
theorem d_M_splice_199 : decode b_M_splice 199 = .ok (.istore 6, 2) := by decide +kernel
theorem d_M_splice_201 : decode b_M_splice 201 = .ok (.aload_n 0, 1) := by decide +kernel
theorem d_M_splice_202 : decode b_M_splice 202 = .ok (.getfield 7, 3) := by decide +kernel
theorem d_M_splice_205 : decode b_M_splice 205 = .ok (.iconst 3, 1) := by decide +kernel
theorem d_M_splice_206 : decode b_M_splice 206 = .ok (.dup2, 1) := by decide +kernel
theorem d_M_splice_207 : decode b_M_splice 207 = .ok (.iaload, 1) := by decide +kernel
theorem d_M_splice_208 : decode b_M_splice 208 = .ok (.iload 6, 2) := by decide +kernel
theorem d_M_splice_210 : decode b_M_splice 210 = .ok (.ifCond .gt 7, 3) := by decide +kernel
theorem d_M_splice_213 : decode b_M_splice 213 = .ok (.iconst 0, 1) := by decide +kernel
theorem d_M_splice_214 : decode b_M_splice 214 = .ok (.goto 15, 3) := by decide +kernel
theorem d_M_splice_217 : decode b_M_splice 217 = .ok (.iload 6, 2) := by decide +kernel
theorem d_M_splice_219 : decode b_M_splice 219 = .ok (.iload_n 3, 1) := by decide +kernel
theorem d_M_splice_220 : decode b_M_splice 220 = .ok (.if_icmp .ge 8, 3) := by decide +kernel
theorem d_M_splice_223 : decode b_M_splice 223 = .ok (.iload 6, 2) := by decide +kernel
theorem d_M_splice_225 : decode b_M_splice 225 = .ok (.goto 4, 3) := by decide +kernel
theorem d_M_splice_228 : decode b_M_splice 228 = .ok (.iload_n 3, 1) := by decide +kernel
theorem d_M_splice_229 : decode b_M_splice 229 = .ok (.isub, 1) := by decide +kernel
theorem d_M_splice_230 : decode b_M_splice 230 = .ok (.iastore, 1) := by decide +kernel
theorem d_M_splice_231 : decode b_M_splice 231 = .ok (.aload_n 0, 1) := by decide +kernel
theorem d_M_splice_232 : decode b_M_splice 232 = .ok (.getfield 7, 3) := by decide +kernel
theorem d_M_splice_235 : decode b_M_splice 235 = .ok (.iconst 0, 1) := by decide +kernel
theorem d_M_splice_236 : decode b_M_splice 236 = .ok (.iaload, 1) := by decide +kernel
theorem d_M_splice_237 : decode b_M_splice 237 = .ok (.ireturn, 1) := by decide +kernel
theorem d_M_sum_0 : decode b_M_sum 0 = .ok (.iconst 0, 1) := by decide +kernel
theorem d_M_sum_1 : decode b_M_sum 1 = .ok (.istore_n 3, 1) := by decide +kernel
theorem d_M_sum_2 : decode b_M_sum 2 = .ok (.iconst 0, 1) := by decide +kernel
theorem d_M_sum_3 : decode b_M_sum 3 = .ok (.istore 4, 2) := by decide +kernel
theorem d_M_sum_5 : decode b_M_sum 5 = .ok (.iload 4, 2) := by decide +kernel
theorem d_M_sum_7 : decode b_M_sum 7 = .ok (.aload_n 0, 1) := by decide +kernel
theorem d_M_sum_8 : decode b_M_sum 8 = .ok (.getfield 7, 3) := by decide +kernel
theorem d_M_sum_11 : decode b_M_sum 11 = .ok (.bipush 8, 2) := by decide +kernel
theorem d_M_sum_13 : decode b_M_sum 13 = .ok (.iload_n 1, 1) := by decide +kernel
theorem d_M_sum_14 : decode b_M_sum 14 = .ok (.iadd, 1) := by decide +kernel
theorem d_M_sum_15 : decode b_M_sum 15 = .ok (.iaload, 1) := by decide +kernel
theorem d_M_sum_16 : decode b_M_sum 16 = .ok (.if_icmp .ge 24, 3) := by decide +kernel
theorem d_M_sum_19 : decode b_M_sum 19 = .ok (.iload_n 3, 1) := by decide +kernel
theorem d_M_sum_20 : decode b_M_sum 20 = .ok (.aload_n 0, 1) := by decide +kernel
theorem d_M_sum_21 : decode b_M_sum 21 = .ok (.getfield 7, 3) := by decide +kernel
theorem d_M_sum_24 : decode b_M_sum 24 = .ok (.iload_n 1, 1) := by decide +kernel
theorem d_M_sum_25 : decode b_M_sum 25 = .ok (.iload 4, 2) := by decide +kernel
theorem d_M_sum_27 : decode b_M_sum 27 = .ok (.iload_n 2, 1) := by decide +kernel
theorem d_M_sum_28 : decode b_M_sum 28 = .ok (.invokestatic 38, 3) := by decide +kernel
theorem d_M_sum_31 : decode b_M_sum 31 = .ok (.iaload, 1) := by decide +kernel
theorem d_M_sum_32 : decode b_M_sum 32 = .ok (.iadd, 1) := by decide +kernel
theorem d_M_sum_33 : decode b_M_sum 33 = .ok (.istore_n 3, 1) := by decide +kernel
theorem d_M_sum_34 : decode b_M_sum 34 = .ok (.iinc 4 1, 3) := by decide +kernel
theorem d_M_sum_37 : decode b_M_sum 37 = .ok (.goto (-32), 3) := by decide +kernel
theorem d_M_sum_40 : decode b_M_sum 40 = .ok (.iload_n 3, 1) := by decide +kernel
theorem d_M_sum_41 : decode b_M_sum 41 = .ok (.ireturn, 1) := by decide +kernel
theorem d_M_ofFile_0 : decode b_M_ofFile 0 = .ok (.iload_n 1, 1) := by decide +kernel
theorem d_M_ofFile_1 : decode b_M_ofFile 1 = .ok (.invokestatic 30, 3) := by decide +kernel
theorem d_M_ofFile_4 : decode b_M_ofFile 4 = .ok (.ifCond .ne 5, 3) := by decide +kernel
theorem d_M_ofFile_7 : decode b_M_ofFile 7 = .ok (.iconst (-1), 1) := by decide +kernel
theorem d_M_ofFile_8 : decode b_M_ofFile 8 = .ok (.ireturn, 1) := by decide +kernel
theorem d_M_ofFile_9 : decode b_M_ofFile 9 = .ok (.iload_n 2, 1) := by decide +kernel
theorem d_M_ofFile_10 : decode b_M_ofFile 10 = .ok (.tableswitch 70 0 4 #[34, 44, 50, 57, 63], 34) := by decide +kernel
theorem d_M_ofFile_44 : decode b_M_ofFile 44 = .ok (.aload_n 0, 1) := by decide +kernel
theorem d_M_ofFile_45 : decode b_M_ofFile 45 = .ok (.getfield 7, 3) := by decide +kernel
theorem d_M_ofFile_48 : decode b_M_ofFile 48 = .ok (.bipush 8, 2) := by decide +kernel
theorem d_M_ofFile_50 : decode b_M_ofFile 50 = .ok (.iload_n 1, 1) := by decide +kernel
theorem d_M_ofFile_51 : decode b_M_ofFile 51 = .ok (.iadd, 1) := by decide +kernel
theorem d_M_ofFile_52 : decode b_M_ofFile 52 = .ok (.iaload, 1) := by decide +kernel
theorem d_M_ofFile_53 : decode b_M_ofFile 53 = .ok (.ireturn, 1) := by decide +kernel
theorem d_M_ofFile_54 : decode b_M_ofFile 54 = .ok (.aload_n 0, 1) := by decide +kernel
theorem d_M_ofFile_55 : decode b_M_ofFile 55 = .ok (.iload_n 1, 1) := by decide +kernel
theorem d_M_ofFile_56 : decode b_M_ofFile 56 = .ok (.invokevirtual 49, 3) := by decide +kernel
theorem d_M_ofFile_59 : decode b_M_ofFile 59 = .ok (.ireturn, 1) := by decide +kernel
theorem d_M_ofFile_60 : decode b_M_ofFile 60 = .ok (.aload_n 0, 1) := by decide +kernel
theorem d_M_ofFile_61 : decode b_M_ofFile 61 = .ok (.iload_n 1, 1) := by decide +kernel
theorem d_M_ofFile_62 : decode b_M_ofFile 62 = .ok (.iconst 0, 1) := by decide +kernel
theorem d_M_ofFile_63 : decode b_M_ofFile 63 = .ok (.invokevirtual 112, 3) := by decide +kernel
theorem d_M_ofFile_66 : decode b_M_ofFile 66 = .ok (.ireturn, 1) := by decide +kernel
theorem d_M_ofFile_67 : decode b_M_ofFile 67 = .ok (.aload_n 0, 1) := by decide +kernel
theorem d_M_ofFile_68 : decode b_M_ofFile 68 = .ok (.iload_n 1, 1) := by decide +kernel
theorem d_M_ofFile_69 : decode b_M_ofFile 69 = .ok (.invokevirtual 53, 3) := by decide +kernel
theorem d_M_ofFile_72 : decode b_M_ofFile 72 = .ok (.ireturn, 1) := by decide +kernel
theorem d_M_ofFile_73 : decode b_M_ofFile 73 = .ok (.aload_n 0, 1) := by decide +kernel
theorem d_M_ofFile_74 : decode b_M_ofFile 74 = .ok (.iload_n 1, 1) := by decide +kernel
theorem d_M_ofFile_75 : decode b_M_ofFile 75 = .ok (.iconst 1, 1) := by decide +kernel
theorem d_M_ofFile_76 : decode b_M_ofFile 76 = .ok (.invokevirtual 112, 3) := by decide +kernel
theorem d_M_ofFile_79 : decode b_M_ofFile 79 = .ok (.ireturn, 1) := by decide +kernel
theorem d_M_ofFile_80 : decode b_M_ofFile 80 = .ok (.bipush (-2), 2) := by decide +kernel
theorem d_M_ofFile_82 : decode b_M_ofFile 82 = .ok (.ireturn, 1) := by decide +kernel
theorem d_M_ofBlock_0 : decode b_M_ofBlock 0 = .ok (.aload_n 0, 1) := by decide +kernel
theorem d_M_ofBlock_1 : decode b_M_ofBlock 1 = .ok (.iload_n 1, 1) := by decide +kernel
theorem d_M_ofBlock_2 : decode b_M_ofBlock 2 = .ok (.iload_n 2, 1) := by decide +kernel
theorem d_M_ofBlock_3 : decode b_M_ofBlock 3 = .ok (.invokevirtual 78, 3) := by decide +kernel
theorem d_M_ofBlock_6 : decode b_M_ofBlock 6 = .ok (.ifCond .ne 5, 3) := by decide +kernel
theorem d_M_ofBlock_9 : decode b_M_ofBlock 9 = .ok (.iconst (-1), 1) := by decide +kernel
theorem d_M_ofBlock_10 : decode b_M_ofBlock 10 = .ok (.ireturn, 1) := by decide +kernel
theorem d_M_ofBlock_11 : decode b_M_ofBlock 11 = .ok (.iload_n 3, 1) := by decide +kernel
theorem d_M_ofBlock_12 : decode b_M_ofBlock 12 = .ok (.tableswitch 104 0 7 #[48, 48, 60, 67, 74, 81, 93, 93], 48) := by decide +kernel
theorem d_M_ofBlock_60 : decode b_M_ofBlock 60 = .ok (.aload_n 0, 1) := by decide +kernel
theorem d_M_ofBlock_61 : decode b_M_ofBlock 61 = .ok (.getfield 7, 3) := by decide +kernel
theorem d_M_ofBlock_64 : decode b_M_ofBlock 64 = .ok (.iload_n 1, 1) := by decide +kernel
theorem d_M_ofBlock_65 : decode b_M_ofBlock 65 = .ok (.iload_n 2, 1) := by decide +kernel
theorem d_M_ofBlock_66 : decode b_M_ofBlock 66 = .ok (.iload_n 3, 1) := by decide +kernel
theorem d_M_ofBlock_67 : decode b_M_ofBlock 67 = .ok (.invokestatic 38, 3) := by decide +kernel
theorem d_M_ofBlock_70 : decode b_M_ofBlock 70 = .ok (.iaload, 1) := by decide +kernel
theorem d_M_ofBlock_71 : decode b_M_ofBlock 71 = .ok (.ireturn, 1) := by decide +kernel
theorem d_M_ofBlock_72 : decode b_M_ofBlock 72 = .ok (.aload_n 0, 1) := by decide +kernel
theorem d_M_ofBlock_73 : decode b_M_ofBlock 73 = .ok (.iload_n 1, 1) := by decide +kernel
theorem d_M_ofBlock_74 : decode b_M_ofBlock 74 = .ok (.iload_n 2, 1) := by decide +kernel
theorem d_M_ofBlock_75 : decode b_M_ofBlock 75 = .ok (.invokevirtual 42, 3) := by decide +kernel
theorem d_M_ofBlock_78 : decode b_M_ofBlock 78 = .ok (.ireturn, 1) := by decide +kernel
theorem d_M_ofBlock_79 : decode b_M_ofBlock 79 = .ok (.aload_n 0, 1) := by decide +kernel
theorem d_M_ofBlock_80 : decode b_M_ofBlock 80 = .ok (.iload_n 1, 1) := by decide +kernel
theorem d_M_ofBlock_81 : decode b_M_ofBlock 81 = .ok (.iload_n 2, 1) := by decide +kernel
theorem d_M_ofBlock_82 : decode b_M_ofBlock 82 = .ok (.invokevirtual 56, 3) := by decide +kernel
theorem d_M_ofBlock_85 : decode b_M_ofBlock 85 = .ok (.ireturn, 1) := by decide +kernel
theorem d_M_ofBlock_86 : decode b_M_ofBlock 86 = .ok (.aload_n 0, 1) := by decide +kernel
theorem d_M_ofBlock_87 : decode b_M_ofBlock 87 = .ok (.iload_n 1, 1) := by decide +kernel
theorem d_M_ofBlock_88 : decode b_M_ofBlock 88 = .ok (.iload_n 2, 1) := by decide +kernel
theorem d_M_ofBlock_89 : decode b_M_ofBlock 89 = .ok (.invokevirtual 63, 3) := by decide +kernel
theorem d_M_ofBlock_92 : decode b_M_ofBlock 92 = .ok (.ireturn, 1) := by decide +kernel
theorem d_M_ofBlock_93 : decode b_M_ofBlock 93 = .ok (.aload_n 0, 1) := by decide +kernel
theorem d_M_ofBlock_94 : decode b_M_ofBlock 94 = .ok (.getfield 7, 3) := by decide +kernel
theorem d_M_ofBlock_97 : decode b_M_ofBlock 97 = .ok (.iload_n 1, 1) := by decide +kernel
theorem d_M_ofBlock_98 : decode b_M_ofBlock 98 = .ok (.iload_n 2, 1) := by decide +kernel
theorem d_M_ofBlock_99 : decode b_M_ofBlock 99 = .ok (.iconst 3, 1) := by decide +kernel
theorem d_M_ofBlock_100 : decode b_M_ofBlock 100 = .ok (.invokestatic 38, 3) := by decide +kernel
theorem d_M_ofBlock_103 : decode b_M_ofBlock 103 = .ok (.iaload, 1) := by decide +kernel
theorem d_M_ofBlock_104 : decode b_M_ofBlock 104 = .ok (.ireturn, 1) := by decide +kernel
theorem d_M_ofBlock_105 : decode b_M_ofBlock 105 = .ok (.aload_n 0, 1) := by decide +kernel
theorem d_M_ofBlock_106 : decode b_M_ofBlock 106 = .ok (.iload_n 1, 1) := by decide +kernel
theorem d_M_ofBlock_107 : decode b_M_ofBlock 107 = .ok (.iload_n 2, 1) := by decide +kernel
theorem d_M_ofBlock_108 : decode b_M_ofBlock 108 = .ok (.iload_n 3, 1) := by decide +kernel
theorem d_M_ofBlock_109 : decode b_M_ofBlock 109 = .ok (.bipush 6, 2) := by decide +kernel
theorem d_M_ofBlock_111 : decode b_M_ofBlock 111 = .ok (.isub, 1) := by decide +kernel
theorem d_M_ofBlock_112 : decode b_M_ofBlock 112 = .ok (.invokevirtual 115, 3) := by decide +kernel
theorem d_M_ofBlock_115 : decode b_M_ofBlock 115 = .ok (.ireturn, 1) := by decide +kernel
theorem d_M_ofBlock_116 : decode b_M_ofBlock 116 = .ok (.bipush (-2), 2) := by decide +kernel
theorem d_M_ofBlock_118 : decode b_M_ofBlock 118 = .ok (.ireturn, 1) := by decide +kernel
theorem d_M_at_0 : decode b_M_at 0 = .ok (.iload_n 1, 1) := by decide +kernel
theorem d_M_at_1 : decode b_M_at 1 = .ok (.iconst 0, 1) := by decide +kernel
theorem d_M_at_2 : decode b_M_at 2 = .ok (.aload_n 0, 1) := by decide +kernel
theorem d_M_at_3 : decode b_M_at 3 = .ok (.getfield 7, 3) := by decide +kernel
theorem d_M_at_6 : decode b_M_at 6 = .ok (.iconst 0, 1) := by decide +kernel
theorem d_M_at_7 : decode b_M_at 7 = .ok (.iaload, 1) := by decide +kernel
theorem d_M_at_8 : decode b_M_at 8 = .ok (.iconst 1, 1) := by decide +kernel
theorem d_M_at_9 : decode b_M_at 9 = .ok (.isub, 1) := by decide +kernel
theorem d_M_at_10 : decode b_M_at 10 = .ok (.invokestatic 26, 3) := by decide +kernel
theorem d_M_at_13 : decode b_M_at 13 = .ok (.ifCond .ne 6, 3) := by decide +kernel
theorem d_M_at_16 : decode b_M_at 16 = .ok (.bipush (-2), 2) := by decide +kernel
theorem d_M_at_18 : decode b_M_at 18 = .ok (.ireturn, 1) := by decide +kernel
theorem d_M_at_19 : decode b_M_at 19 = .ok (.aload_n 0, 1) := by decide +kernel
theorem d_M_at_20 : decode b_M_at 20 = .ok (.iload_n 1, 1) := by decide +kernel
theorem d_M_at_21 : decode b_M_at 21 = .ok (.iload_n 1, 1) := by decide +kernel
theorem d_M_at_22 : decode b_M_at 22 = .ok (.invokevirtual 109, 3) := by decide +kernel
theorem d_M_at_25 : decode b_M_at 25 = .ok (.istore_n 2, 1) := by decide +kernel
theorem d_M_at_26 : decode b_M_at 26 = .ok (.iload_n 2, 1) := by decide +kernel
theorem d_M_at_27 : decode b_M_at 27 = .ok (.iconst (-1), 1) := by decide +kernel
theorem d_M_at_28 : decode b_M_at 28 = .ok (.if_icmp .ne 7, 3) := by decide +kernel
theorem d_M_at_31 : decode b_M_at 31 = .ok (.iconst 0, 1) := by decide +kernel
theorem d_M_at_32 : decode b_M_at 32 = .ok (.goto 34, 3) := by decide +kernel
theorem d_M_at_35 : decode b_M_at 35 = .ok (.iload_n 2, 1) := by decide +kernel
theorem d_M_at_36 : decode b_M_at 36 = .ok (.ifCond .lt 15, 3) := by decide +kernel
theorem d_M_at_39 : decode b_M_at 39 = .ok (.iconst 2, 1) := by decide +kernel
theorem d_M_at_40 : decode b_M_at 40 = .ok (.bipush 10, 2) := by decide +kernel
theorem d_M_at_42 : decode b_M_at 42 = .ok (.iload_n 2, 1) := by decide +kernel
theorem d_M_at_43 : decode b_M_at 43 = .ok (.bipush 20, 2) := by decide +kernel
theorem d_M_at_45 : decode b_M_at 45 = .ok (.idiv, 1) := by decide +kernel
theorem d_M_at_46 : decode b_M_at 46 = .ok (.imul, 1) := by decide +kernel
theorem d_M_at_47 : decode b_M_at 47 = .ok (.iadd, 1) := by decide +kernel
theorem d_M_at_48 : decode b_M_at 48 = .ok (.goto 18, 3) := by decide +kernel
theorem d_M_at_51 : decode b_M_at 51 = .ok (.iload_n 1, 1) := by decide +kernel
theorem d_M_at_52 : decode b_M_at 52 = .ok (.aload_n 0, 1) := by decide +kernel
theorem d_M_at_53 : decode b_M_at 53 = .ok (.iconst 0, 1) := by decide +kernel
theorem d_M_at_54 : decode b_M_at 54 = .ok (.invokevirtual 53, 3) := by decide +kernel
theorem d_M_at_57 : decode b_M_at 57 = .ok (.if_icmp .ge 7, 3) := by decide +kernel
theorem d_M_at_60 : decode b_M_at 60 = .ok (.iconst 1, 1) := by decide +kernel
theorem d_M_at_61 : decode b_M_at 61 = .ok (.goto 5, 3) := by decide +kernel
theorem d_M_at_64 : decode b_M_at 64 = .ok (.bipush 11, 2) := by decide +kernel
theorem d_M_at_66 : decode b_M_at 66 = .ok (.ireturn, 1) := by decide +kernel
theorem d_M_count_0 : decode b_M_count 0 = .ok (.iload_n 1, 1) := by decide +kernel
theorem d_M_count_1 : decode b_M_count 1 = .ok (.tableswitch 110 0 11 #[63, 63, 63, 63, 70, 75, 91, 91, 91, 91, 100, 105], 63) := by decide +kernel
theorem d_M_count_64 : decode b_M_count 64 = .ok (.aload_n 0, 1) := by decide +kernel
theorem d_M_count_65 : decode b_M_count 65 = .ok (.getfield 7, 3) := by decide +kernel
theorem d_M_count_68 : decode b_M_count 68 = .ok (.iload_n 1, 1) := by decide +kernel
theorem d_M_count_69 : decode b_M_count 69 = .ok (.iaload, 1) := by decide +kernel
theorem d_M_count_70 : decode b_M_count 70 = .ok (.ireturn, 1) := by decide +kernel
theorem d_M_count_71 : decode b_M_count 71 = .ok (.aload_n 0, 1) := by decide +kernel
theorem d_M_count_72 : decode b_M_count 72 = .ok (.invokevirtual 70, 3) := by decide +kernel
theorem d_M_count_75 : decode b_M_count 75 = .ok (.ireturn, 1) := by decide +kernel
theorem d_M_count_76 : decode b_M_count 76 = .ok (.aload_n 0, 1) := by decide +kernel
theorem d_M_count_77 : decode b_M_count 77 = .ok (.getfield 7, 3) := by decide +kernel
theorem d_M_count_80 : decode b_M_count 80 = .ok (.bipush 8, 2) := by decide +kernel
theorem d_M_count_82 : decode b_M_count 82 = .ok (.iaload, 1) := by decide +kernel
theorem d_M_count_83 : decode b_M_count 83 = .ok (.aload_n 0, 1) := by decide +kernel
theorem d_M_count_84 : decode b_M_count 84 = .ok (.getfield 7, 3) := by decide +kernel
theorem d_M_count_87 : decode b_M_count 87 = .ok (.bipush 9, 2) := by decide +kernel
theorem d_M_count_89 : decode b_M_count 89 = .ok (.iaload, 1) := by decide +kernel
theorem d_M_count_90 : decode b_M_count 90 = .ok (.iadd, 1) := by decide +kernel
theorem d_M_count_91 : decode b_M_count 91 = .ok (.ireturn, 1) := by decide +kernel
theorem d_M_count_92 : decode b_M_count 92 = .ok (.aload_n 0, 1) := by decide +kernel
theorem d_M_count_93 : decode b_M_count 93 = .ok (.getfield 7, 3) := by decide +kernel
theorem d_M_count_96 : decode b_M_count 96 = .ok (.iload_n 1, 1) := by decide +kernel
theorem d_M_count_97 : decode b_M_count 97 = .ok (.iconst 2, 1) := by decide +kernel
theorem d_M_count_98 : decode b_M_count 98 = .ok (.isub, 1) := by decide +kernel
theorem d_M_count_99 : decode b_M_count 99 = .ok (.iaload, 1) := by decide +kernel
theorem d_M_count_100 : decode b_M_count 100 = .ok (.ireturn, 1) := by decide +kernel
theorem d_M_count_101 : decode b_M_count 101 = .ok (.aload_n 0, 1) := by decide +kernel
theorem d_M_count_102 : decode b_M_count 102 = .ok (.getfield 118, 3) := by decide +kernel
theorem d_M_count_105 : decode b_M_count 105 = .ok (.ireturn, 1) := by decide +kernel
theorem d_M_count_106 : decode b_M_count 106 = .ok (.aload_n 0, 1) := by decide +kernel
theorem d_M_count_107 : decode b_M_count 107 = .ok (.getfield 34, 3) := by decide +kernel
theorem d_M_count_110 : decode b_M_count 110 = .ok (.ireturn, 1) := by decide +kernel
theorem d_M_count_111 : decode b_M_count 111 = .ok (.bipush (-2), 2) := by decide +kernel
theorem d_M_count_113 : decode b_M_count 113 = .ok (.ireturn, 1) := by decide +kernel
theorem d_M_fits_0 : decode b_M_fits 0 = .ok (.iload_n 1, 1) := by decide +kernel
theorem d_M_fits_1 : decode b_M_fits 1 = .ok (.invokestatic 30, 3) := by decide +kernel
theorem d_M_fits_4 : decode b_M_fits 4 = .ok (.ifCond .ne 5, 3) := by decide +kernel
theorem d_M_fits_7 : decode b_M_fits 7 = .ok (.iconst (-1), 1) := by decide +kernel
theorem d_M_fits_8 : decode b_M_fits 8 = .ok (.ireturn, 1) := by decide +kernel
theorem d_M_fits_9 : decode b_M_fits 9 = .ok (.aload_n 0, 1) := by decide +kernel
theorem d_M_fits_10 : decode b_M_fits 10 = .ok (.invokevirtual 70, 3) := by decide +kernel
theorem d_M_fits_13 : decode b_M_fits 13 = .ok (.aload_n 0, 1) := by decide +kernel
theorem d_M_fits_14 : decode b_M_fits 14 = .ok (.getfield 7, 3) := by decide +kernel
theorem d_M_fits_17 : decode b_M_fits 17 = .ok (.iconst 1, 1) := by decide +kernel
theorem d_M_fits_18 : decode b_M_fits 18 = .ok (.iaload, 1) := by decide +kernel
theorem d_M_fits_19 : decode b_M_fits 19 = .ok (.isub, 1) := by decide +kernel
theorem d_M_fits_20 : decode b_M_fits 20 = .ok (.iconst 2, 1) := by decide +kernel
theorem d_M_fits_21 : decode b_M_fits 21 = .ok (.aload_n 0, 1) := by decide +kernel
theorem d_M_fits_22 : decode b_M_fits 22 = .ok (.getfield 7, 3) := by decide +kernel
theorem d_M_fits_25 : decode b_M_fits 25 = .ok (.iconst 2, 1) := by decide +kernel
theorem d_M_fits_26 : decode b_M_fits 26 = .ok (.iaload, 1) := by decide +kernel
theorem d_M_fits_27 : decode b_M_fits 27 = .ok (.imul, 1) := by decide +kernel
theorem d_M_fits_28 : decode b_M_fits 28 = .ok (.isub, 1) := by decide +kernel
theorem d_M_fits_29 : decode b_M_fits 29 = .ok (.istore_n 2, 1) := by decide +kernel
theorem d_M_fits_30 : decode b_M_fits 30 = .ok (.iload_n 2, 1) := by decide +kernel
theorem d_M_fits_31 : decode b_M_fits 31 = .ok (.ifCond .lt 17, 3) := by decide +kernel
theorem d_M_fits_34 : decode b_M_fits 34 = .ok (.aload_n 0, 1) := by decide +kernel
theorem d_M_fits_35 : decode b_M_fits 35 = .ok (.getfield 7, 3) := by decide +kernel
theorem d_M_fits_38 : decode b_M_fits 38 = .ok (.bipush 8, 2) := by decide +kernel
theorem d_M_fits_40 : decode b_M_fits 40 = .ok (.iload_n 1, 1) := by decide +kernel
theorem d_M_fits_41 : decode b_M_fits 41 = .ok (.iadd, 1) := by decide +kernel
theorem d_M_fits_42 : decode b_M_fits 42 = .ok (.iaload, 1) := by decide +kernel
theorem d_M_fits_43 : decode b_M_fits 43 = .ok (.bipush 20, 2) := by decide +kernel
theorem d_M_fits_45 : decode b_M_fits 45 = .ok (.if_icmp .ne 7, 3) := by decide +kernel
theorem d_M_fits_48 : decode b_M_fits 48 = .ok (.iconst 0, 1) := by decide +kernel
theorem d_M_fits_49 : decode b_M_fits 49 = .ok (.goto 15, 3) := by decide +kernel
theorem d_M_fits_52 : decode b_M_fits 52 = .ok (.iload_n 2, 1) := by decide +kernel
theorem d_M_fits_53 : decode b_M_fits 53 = .ok (.bipush 99, 2) := by decide +kernel
theorem d_M_fits_55 : decode b_M_fits 55 = .ok (.if_icmp .le 8, 3) := by decide +kernel
theorem d_M_fits_58 : decode b_M_fits 58 = .ok (.bipush 99, 2) := by decide +kernel
theorem d_M_fits_60 : decode b_M_fits 60 = .ok (.goto 4, 3) := by decide +kernel
theorem d_M_fits_63 : decode b_M_fits 63 = .ok (.iload_n 2, 1) := by decide +kernel
theorem d_M_fits_64 : decode b_M_fits 64 = .ok (.ireturn, 1) := by decide +kernel
theorem d_M_rooms_0 : decode b_M_rooms 0 = .ok (.iload_n 1, 1) := by decide +kernel
theorem d_M_rooms_1 : decode b_M_rooms 1 = .ok (.iconst 1, 1) := by decide +kernel
theorem d_M_rooms_2 : decode b_M_rooms 2 = .ok (.bipush 99, 2) := by decide +kernel
theorem d_M_rooms_4 : decode b_M_rooms 4 = .ok (.invokestatic 26, 3) := by decide +kernel
theorem d_M_rooms_7 : decode b_M_rooms 7 = .ok (.ifCond .ne 6, 3) := by decide +kernel
theorem d_M_rooms_10 : decode b_M_rooms 10 = .ok (.bipush (-2), 2) := by decide +kernel
theorem d_M_rooms_12 : decode b_M_rooms 12 = .ok (.ireturn, 1) := by decide +kernel
theorem d_M_rooms_13 : decode b_M_rooms 13 = .ok (.aload_n 0, 1) := by decide +kernel
theorem d_M_rooms_14 : decode b_M_rooms 14 = .ok (.invokevirtual 70, 3) := by decide +kernel
theorem d_M_rooms_17 : decode b_M_rooms 17 = .ok (.aload_n 0, 1) := by decide +kernel
theorem d_M_rooms_18 : decode b_M_rooms 18 = .ok (.getfield 7, 3) := by decide +kernel
theorem d_M_rooms_21 : decode b_M_rooms 21 = .ok (.iconst 1, 1) := by decide +kernel
theorem d_M_rooms_22 : decode b_M_rooms 22 = .ok (.iaload, 1) := by decide +kernel
theorem d_M_rooms_23 : decode b_M_rooms 23 = .ok (.isub, 1) := by decide +kernel
theorem d_M_rooms_24 : decode b_M_rooms 24 = .ok (.iload_n 1, 1) := by decide +kernel
theorem d_M_rooms_25 : decode b_M_rooms 25 = .ok (.iconst 2, 1) := by decide +kernel
theorem d_M_rooms_26 : decode b_M_rooms 26 = .ok (.aload_n 0, 1) := by decide +kernel
theorem d_M_rooms_27 : decode b_M_rooms 27 = .ok (.getfield 7, 3) := by decide +kernel
theorem d_M_rooms_30 : decode b_M_rooms 30 = .ok (.iconst 2, 1) := by decide +kernel
theorem d_M_rooms_31 : decode b_M_rooms 31 = .ok (.iaload, 1) := by decide +kernel
theorem d_M_rooms_32 : decode b_M_rooms 32 = .ok (.imul, 1) := by decide +kernel
theorem d_M_rooms_33 : decode b_M_rooms 33 = .ok (.iadd, 1) := by decide +kernel
theorem d_M_rooms_34 : decode b_M_rooms 34 = .ok (.idiv, 1) := by decide +kernel
theorem d_M_rooms_35 : decode b_M_rooms 35 = .ok (.istore_n 2, 1) := by decide +kernel
theorem d_M_rooms_36 : decode b_M_rooms 36 = .ok (.bipush 40, 2) := by decide +kernel
theorem d_M_rooms_38 : decode b_M_rooms 38 = .ok (.aload_n 0, 1) := by decide +kernel
theorem d_M_rooms_39 : decode b_M_rooms 39 = .ok (.getfield 7, 3) := by decide +kernel
theorem d_M_rooms_42 : decode b_M_rooms 42 = .ok (.bipush 8, 2) := by decide +kernel
theorem d_M_rooms_44 : decode b_M_rooms 44 = .ok (.iaload, 1) := by decide +kernel
theorem d_M_rooms_45 : decode b_M_rooms 45 = .ok (.isub, 1) := by decide +kernel
theorem d_M_rooms_46 : decode b_M_rooms 46 = .ok (.aload_n 0, 1) := by decide +kernel
theorem d_M_rooms_47 : decode b_M_rooms 47 = .ok (.getfield 7, 3) := by decide +kernel
theorem d_M_rooms_50 : decode b_M_rooms 50 = .ok (.bipush 9, 2) := by decide +kernel
theorem d_M_rooms_52 : decode b_M_rooms 52 = .ok (.iaload, 1) := by decide +kernel
theorem d_M_rooms_53 : decode b_M_rooms 53 = .ok (.isub, 1) := by decide +kernel
theorem d_M_rooms_54 : decode b_M_rooms 54 = .ok (.istore_n 3, 1) := by decide +kernel
theorem d_M_rooms_55 : decode b_M_rooms 55 = .ok (.iload_n 2, 1) := by decide +kernel
theorem d_M_rooms_56 : decode b_M_rooms 56 = .ok (.iload_n 3, 1) := by decide +kernel
theorem d_M_rooms_57 : decode b_M_rooms 57 = .ok (.if_icmp .ge 7, 3) := by decide +kernel
theorem d_M_rooms_60 : decode b_M_rooms 60 = .ok (.iload_n 2, 1) := by decide +kernel
theorem d_M_rooms_61 : decode b_M_rooms 61 = .ok (.goto 4, 3) := by decide +kernel
theorem d_M_rooms_64 : decode b_M_rooms 64 = .ok (.iload_n 3, 1) := by decide +kernel
theorem d_M_rooms_65 : decode b_M_rooms 65 = .ok (.ireturn, 1) := by decide +kernel
theorem d_M_nearest_0 : decode b_M_nearest 0 = .ok (.iload_n 1, 1) := by decide +kernel
theorem d_M_nearest_1 : decode b_M_nearest 1 = .ok (.iconst 0, 1) := by decide +kernel
theorem d_M_nearest_2 : decode b_M_nearest 2 = .ok (.iconst 3, 1) := by decide +kernel
theorem d_M_nearest_3 : decode b_M_nearest 3 = .ok (.invokestatic 26, 3) := by decide +kernel
theorem d_M_nearest_6 : decode b_M_nearest 6 = .ok (.ifCond .ne 6, 3) := by decide +kernel
theorem d_M_nearest_9 : decode b_M_nearest 9 = .ok (.bipush (-2), 2) := by decide +kernel
theorem d_M_nearest_11 : decode b_M_nearest 11 = .ok (.ireturn, 1) := by decide +kernel
theorem d_M_nearest_12 : decode b_M_nearest 12 = .ok (.bipush (-6), 2) := by decide +kernel
theorem d_M_nearest_14 : decode b_M_nearest 14 = .ok (.istore_n 2, 1) := by decide +kernel
theorem d_M_nearest_15 : decode b_M_nearest 15 = .ok (.iconst 0, 1) := by decide +kernel
theorem d_M_nearest_16 : decode b_M_nearest 16 = .ok (.istore_n 3, 1) := by decide +kernel
theorem d_M_nearest_17 : decode b_M_nearest 17 = .ok (.iconst 0, 1) := by decide +kernel
theorem d_M_nearest_18 : decode b_M_nearest 18 = .ok (.istore 4, 2) := by decide +kernel
theorem d_M_nearest_20 : decode b_M_nearest 20 = .ok (.iload 4, 2) := by decide +kernel
theorem d_M_nearest_22 : decode b_M_nearest 22 = .ok (.bipush 80, 2) := by decide +kernel
theorem d_M_nearest_24 : decode b_M_nearest 24 = .ok (.if_icmp .ge 97, 3) := by decide +kernel
theorem d_M_nearest_27 : decode b_M_nearest 27 = .ok (.iload 4, 2) := by decide +kernel
theorem d_M_nearest_29 : decode b_M_nearest 29 = .ok (.bipush 40, 2) := by decide +kernel
theorem d_M_nearest_31 : decode b_M_nearest 31 = .ok (.idiv, 1) := by decide +kernel
theorem d_M_nearest_32 : decode b_M_nearest 32 = .ok (.istore 5, 2) := by decide +kernel
theorem d_M_nearest_34 : decode b_M_nearest 34 = .ok (.iload 4, 2) := by decide +kernel
theorem d_M_nearest_36 : decode b_M_nearest 36 = .ok (.iconst 2, 1) := by decide +kernel
theorem d_M_nearest_37 : decode b_M_nearest 37 = .ok (.idiv, 1) := by decide +kernel
theorem d_M_nearest_38 : decode b_M_nearest 38 = .ok (.bipush 20, 2) := by decide +kernel
theorem d_M_nearest_40 : decode b_M_nearest 40 = .ok (.irem, 1) := by decide +kernel
theorem d_M_nearest_41 : decode b_M_nearest 41 = .ok (.istore 6, 2) := by decide +kernel
theorem d_M_nearest_43 : decode b_M_nearest 43 = .ok (.iload 6, 2) := by decide +kernel
theorem d_M_nearest_45 : decode b_M_nearest 45 = .ok (.aload_n 0, 1) := by decide +kernel
theorem d_M_nearest_46 : decode b_M_nearest 46 = .ok (.getfield 7, 3) := by decide +kernel
theorem d_M_nearest_49 : decode b_M_nearest 49 = .ok (.bipush 8, 2) := by decide +kernel
theorem d_M_nearest_51 : decode b_M_nearest 51 = .ok (.iload 5, 2) := by decide +kernel
theorem d_M_nearest_53 : decode b_M_nearest 53 = .ok (.iadd, 1) := by decide +kernel
theorem d_M_nearest_54 : decode b_M_nearest 54 = .ok (.iaload, 1) := by decide +kernel
theorem d_M_nearest_55 : decode b_M_nearest 55 = .ok (.if_icmp .ge 60, 3) := by decide +kernel
theorem d_M_nearest_58 : decode b_M_nearest 58 = .ok (.aload_n 0, 1) := by decide +kernel
theorem d_M_nearest_59 : decode b_M_nearest 59 = .ok (.iload 5, 2) := by decide +kernel
theorem d_M_nearest_61 : decode b_M_nearest 61 = .ok (.iload 6, 2) := by decide +kernel
theorem d_M_nearest_63 : decode b_M_nearest 63 = .ok (.iload 4, 2) := by decide +kernel
theorem d_M_nearest_65 : decode b_M_nearest 65 = .ok (.iconst 2, 1) := by decide +kernel
theorem d_M_nearest_66 : decode b_M_nearest 66 = .ok (.irem, 1) := by decide +kernel
theorem d_M_nearest_67 : decode b_M_nearest 67 = .ok (.invokevirtual 115, 3) := by decide +kernel
theorem d_M_nearest_70 : decode b_M_nearest 70 = .ok (.istore 7, 2) := by decide +kernel
theorem d_M_nearest_72 : decode b_M_nearest 72 = .ok (.iload_n 2, 1) := by decide +kernel
theorem d_M_nearest_73 : decode b_M_nearest 73 = .ok (.bipush (-6), 2) := by decide +kernel
theorem d_M_nearest_75 : decode b_M_nearest 75 = .ok (.if_icmp .eq 9, 3) := by decide +kernel
theorem d_M_nearest_78 : decode b_M_nearest 78 = .ok (.iload 7, 2) := by decide +kernel
theorem d_M_nearest_80 : decode b_M_nearest 80 = .ok (.iload_n 3, 1) := by decide +kernel
theorem d_M_nearest_81 : decode b_M_nearest 81 = .ok (.if_icmp .ge 7, 3) := by decide +kernel
theorem d_M_nearest_84 : decode b_M_nearest 84 = .ok (.iconst 1, 1) := by decide +kernel
theorem d_M_nearest_85 : decode b_M_nearest 85 = .ok (.goto 4, 3) := by decide +kernel
theorem d_M_nearest_88 : decode b_M_nearest 88 = .ok (.iconst 0, 1) := by decide +kernel
theorem d_M_nearest_89 : decode b_M_nearest 89 = .ok (.istore 8, 2) := by decide +kernel
theorem d_M_nearest_91 : decode b_M_nearest 91 = .ok (.iload 8, 2) := by decide +kernel
theorem d_M_nearest_93 : decode b_M_nearest 93 = .ok (.ifCond .eq 8, 3) := by decide +kernel
theorem d_M_nearest_96 : decode b_M_nearest 96 = .ok (.iload 4, 2) := by decide +kernel
theorem d_M_nearest_98 : decode b_M_nearest 98 = .ok (.goto 4, 3) := by decide +kernel
theorem d_M_nearest_101 : decode b_M_nearest 101 = .ok (.iload_n 2, 1) := by decide +kernel
theorem d_M_nearest_102 : decode b_M_nearest 102 = .ok (.istore_n 2, 1) := by decide +kernel
theorem d_M_nearest_103 : decode b_M_nearest 103 = .ok (.iload 8, 2) := by decide +kernel
theorem d_M_nearest_105 : decode b_M_nearest 105 = .ok (.ifCond .eq 8, 3) := by decide +kernel
theorem d_M_nearest_108 : decode b_M_nearest 108 = .ok (.iload 7, 2) := by decide +kernel
theorem d_M_nearest_110 : decode b_M_nearest 110 = .ok (.goto 4, 3) := by decide +kernel
theorem d_M_nearest_113 : decode b_M_nearest 113 = .ok (.iload_n 3, 1) := by decide +kernel
theorem d_M_nearest_114 : decode b_M_nearest 114 = .ok (.istore_n 3, 1) := by decide +kernel
theorem d_M_nearest_115 : decode b_M_nearest 115 = .ok (.iinc 4 1, 3) := by decide +kernel
theorem d_M_nearest_118 : decode b_M_nearest 118 = .ok (.goto (-98), 3) := by decide +kernel
theorem d_M_nearest_121 : decode b_M_nearest 121 = .ok (.iload_n 2, 1) := by decide +kernel
theorem d_M_nearest_122 : decode b_M_nearest 122 = .ok (.bipush (-6), 2) := by decide +kernel
theorem d_M_nearest_124 : decode b_M_nearest 124 = .ok (.if_icmp .ne 8, 3) := by decide +kernel
theorem d_M_nearest_127 : decode b_M_nearest 127 = .ok (.bipush (-6), 2) := by decide +kernel
theorem d_M_nearest_129 : decode b_M_nearest 129 = .ok (.goto 40, 3) := by decide +kernel
theorem d_M_nearest_132 : decode b_M_nearest 132 = .ok (.iload_n 1, 1) := by decide +kernel
theorem d_M_nearest_133 : decode b_M_nearest 133 = .ok (.ifCond .ne 10, 3) := by decide +kernel
theorem d_M_nearest_136 : decode b_M_nearest 136 = .ok (.iload_n 2, 1) := by decide +kernel
theorem d_M_nearest_137 : decode b_M_nearest 137 = .ok (.bipush 40, 2) := by decide +kernel
theorem d_M_nearest_139 : decode b_M_nearest 139 = .ok (.idiv, 1) := by decide +kernel
theorem d_M_nearest_140 : decode b_M_nearest 140 = .ok (.goto 29, 3) := by decide +kernel
theorem d_M_nearest_143 : decode b_M_nearest 143 = .ok (.iload_n 1, 1) := by decide +kernel
theorem d_M_nearest_144 : decode b_M_nearest 144 = .ok (.iconst 1, 1) := by decide +kernel
theorem d_M_nearest_145 : decode b_M_nearest 145 = .ok (.if_icmp .ne 12, 3) := by decide +kernel
theorem d_M_nearest_148 : decode b_M_nearest 148 = .ok (.iload_n 2, 1) := by decide +kernel
theorem d_M_nearest_149 : decode b_M_nearest 149 = .ok (.iconst 2, 1) := by decide +kernel
theorem d_M_nearest_150 : decode b_M_nearest 150 = .ok (.idiv, 1) := by decide +kernel
theorem d_M_nearest_151 : decode b_M_nearest 151 = .ok (.bipush 20, 2) := by decide +kernel
theorem d_M_nearest_153 : decode b_M_nearest 153 = .ok (.irem, 1) := by decide +kernel
theorem d_M_nearest_154 : decode b_M_nearest 154 = .ok (.goto 15, 3) := by decide +kernel
theorem d_M_nearest_157 : decode b_M_nearest 157 = .ok (.iload_n 1, 1) := by decide +kernel
theorem d_M_nearest_158 : decode b_M_nearest 158 = .ok (.iconst 2, 1) := by decide +kernel
theorem d_M_nearest_159 : decode b_M_nearest 159 = .ok (.if_icmp .ne 9, 3) := by decide +kernel
theorem d_M_nearest_162 : decode b_M_nearest 162 = .ok (.iload_n 2, 1) := by decide +kernel
theorem d_M_nearest_163 : decode b_M_nearest 163 = .ok (.iconst 2, 1) := by decide +kernel
theorem d_M_nearest_164 : decode b_M_nearest 164 = .ok (.irem, 1) := by decide +kernel
theorem d_M_nearest_165 : decode b_M_nearest 165 = .ok (.goto 4, 3) := by decide +kernel
theorem d_M_nearest_168 : decode b_M_nearest 168 = .ok (.iload_n 3, 1) := by decide +kernel
theorem d_M_nearest_169 : decode b_M_nearest 169 = .ok (.ireturn, 1) := by decide +kernel
theorem d_M_put_0 : decode b_M_put 0 = .ok (.iconst 0, 1) := by decide +kernel
theorem d_M_put_1 : decode b_M_put 1 = .ok (.istore_n 3, 1) := by decide +kernel
theorem d_M_put_2 : decode b_M_put 2 = .ok (.iconst 0, 1) := by decide +kernel
theorem d_M_put_3 : decode b_M_put 3 = .ok (.istore 4, 2) := by decide +kernel
theorem d_M_put_5 : decode b_M_put 5 = .ok (.iconst 0, 1) := by decide +kernel
theorem d_M_put_6 : decode b_M_put 6 = .ok (.istore 5, 2) := by decide +kernel
theorem d_M_put_8 : decode b_M_put 8 = .ok (.iload 5, 2) := by decide +kernel
theorem d_M_put_10 : decode b_M_put 10 = .ok (.bipush 8, 2) := by decide +kernel
theorem d_M_put_12 : decode b_M_put 12 = .ok (.if_icmp .ge 89, 3) := by decide +kernel
theorem d_M_put_15 : decode b_M_put 15 = .ok (.lload_n 1, 1) := by decide +kernel
theorem d_M_put_16 : decode b_M_put 16 = .ok (.bipush 8, 2) := by decide +kernel
theorem d_M_put_18 : decode b_M_put 18 = .ok (.iload 5, 2) := by decide +kernel
theorem d_M_put_20 : decode b_M_put 20 = .ok (.imul, 1) := by decide +kernel
theorem d_M_put_21 : decode b_M_put 21 = .ok (.lushr, 1) := by decide +kernel
theorem d_M_put_22 : decode b_M_put 22 = .ok (.ldc2_w 121, 3) := by decide +kernel
theorem d_M_put_25 : decode b_M_put 25 = .ok (.land, 1) := by decide +kernel
theorem d_M_put_26 : decode b_M_put 26 = .ok (.l2i, 1) := by decide +kernel
theorem d_M_put_27 : decode b_M_put 27 = .ok (.istore 6, 2) := by decide +kernel
theorem d_M_put_29 : decode b_M_put 29 = .ok (.iload 5, 2) := by decide +kernel
theorem d_M_put_31 : decode b_M_put 31 = .ok (.ifCond .le 19, 3) := by decide +kernel
theorem d_M_put_34 : decode b_M_put 34 = .ok (.lload_n 1, 1) := by decide +kernel
theorem d_M_put_35 : decode b_M_put 35 = .ok (.bipush 8, 2) := by decide +kernel
theorem d_M_put_37 : decode b_M_put 37 = .ok (.iload 5, 2) := by decide +kernel
theorem d_M_put_39 : decode b_M_put 39 = .ok (.imul, 1) := by decide +kernel
theorem d_M_put_40 : decode b_M_put 40 = .ok (.lushr, 1) := by decide +kernel
theorem d_M_put_41 : decode b_M_put 41 = .ok (.lconst 0, 1) := by decide +kernel
theorem d_M_put_42 : decode b_M_put 42 = .ok (.lcmp, 1) := by decide +kernel
theorem d_M_put_43 : decode b_M_put 43 = .ok (.ifCond .ne 7, 3) := by decide +kernel
theorem d_M_put_46 : decode b_M_put 46 = .ok (.iconst 1, 1) := by decide +kernel
theorem d_M_put_47 : decode b_M_put 47 = .ok (.goto 4, 3) := by decide +kernel
theorem d_M_put_50 : decode b_M_put 50 = .ok (.iconst 0, 1) := by decide +kernel
theorem d_M_put_51 : decode b_M_put 51 = .ok (.istore 7, 2) := by decide +kernel
theorem d_M_put_53 : decode b_M_put 53 = .ok (.iload 4, 2) := by decide +kernel
theorem d_M_put_55 : decode b_M_put 55 = .ok (.ifCond .ne 20, 3) := by decide +kernel
theorem d_M_put_58 : decode b_M_put 58 = .ok (.iload 7, 2) := by decide +kernel
theorem d_M_put_60 : decode b_M_put 60 = .ok (.ifCond .ne 19, 3) := by decide +kernel
theorem d_M_put_63 : decode b_M_put 63 = .ok (.iload 6, 2) := by decide +kernel
theorem d_M_put_65 : decode b_M_put 65 = .ok (.bipush 33, 2) := by decide +kernel
theorem d_M_put_67 : decode b_M_put 67 = .ok (.bipush 126, 2) := by decide +kernel
theorem d_M_put_69 : decode b_M_put 69 = .ok (.invokestatic 26, 3) := by decide +kernel
theorem d_M_put_72 : decode b_M_put 72 = .ok (.ifCond .ne 7, 3) := by decide +kernel
theorem d_M_put_75 : decode b_M_put 75 = .ok (.iconst 1, 1) := by decide +kernel
theorem d_M_put_76 : decode b_M_put 76 = .ok (.goto 4, 3) := by decide +kernel
theorem d_M_put_79 : decode b_M_put 79 = .ok (.iconst 0, 1) := by decide +kernel
theorem d_M_put_80 : decode b_M_put 80 = .ok (.istore 4, 2) := by decide +kernel
theorem d_M_put_82 : decode b_M_put 82 = .ok (.iload_n 3, 1) := by decide +kernel
theorem d_M_put_83 : decode b_M_put 83 = .ok (.iload 7, 2) := by decide +kernel
theorem d_M_put_85 : decode b_M_put 85 = .ok (.ifCond .eq 7, 3) := by decide +kernel
theorem d_M_put_88 : decode b_M_put 88 = .ok (.iconst 0, 1) := by decide +kernel
theorem d_M_put_89 : decode b_M_put 89 = .ok (.goto 4, 3) := by decide +kernel
theorem d_M_put_92 : decode b_M_put 92 = .ok (.iconst 1, 1) := by decide +kernel
theorem d_M_put_93 : decode b_M_put 93 = .ok (.iadd, 1) := by decide +kernel
theorem d_M_put_94 : decode b_M_put 94 = .ok (.istore_n 3, 1) := by decide +kernel
theorem d_M_put_95 : decode b_M_put 95 = .ok (.iinc 5 1, 3) := by decide +kernel
theorem d_M_put_98 : decode b_M_put 98 = .ok (.goto (-90), 3) := by decide +kernel
theorem d_M_put_101 : decode b_M_put 101 = .ok (.iload 4, 2) := by decide +kernel
theorem d_M_put_103 : decode b_M_put 103 = .ok (.ifCond .eq 6, 3) := by decide +kernel
theorem d_M_put_106 : decode b_M_put 106 = .ok (.bipush (-2), 2) := by decide +kernel
theorem d_M_put_108 : decode b_M_put 108 = .ok (.ireturn, 1) := by decide +kernel
theorem d_M_put_109 : decode b_M_put 109 = .ok (.aload_n 0, 1) := by decide +kernel
theorem d_M_put_110 : decode b_M_put 110 = .ok (.getfield 118, 3) := by decide +kernel
theorem d_M_put_113 : decode b_M_put 113 = .ok (.iload_n 3, 1) := by decide +kernel
theorem d_M_put_114 : decode b_M_put 114 = .ok (.iadd, 1) := by decide +kernel
theorem d_M_put_115 : decode b_M_put 115 = .ok (.bipush 80, 2) := by decide +kernel
theorem d_M_put_117 : decode b_M_put 117 = .ok (.if_icmp .le 6, 3) := by decide +kernel
theorem d_M_put_120 : decode b_M_put 120 = .ok (.bipush (-4), 2) := by decide +kernel
theorem d_M_put_122 : decode b_M_put 122 = .ok (.ireturn, 1) := by decide +kernel
theorem d_M_put_123 : decode b_M_put 123 = .ok (.iconst 0, 1) := by decide +kernel
theorem d_M_put_124 : decode b_M_put 124 = .ok (.istore 5, 2) := by decide +kernel
theorem d_M_put_126 : decode b_M_put 126 = .ok (.iload 5, 2) := by decide +kernel
theorem d_M_put_128 : decode b_M_put 128 = .ok (.iload_n 3, 1) := by decide +kernel
theorem d_M_put_129 : decode b_M_put 129 = .ok (.if_icmp .ge 37, 3) := by decide +kernel
theorem d_M_put_132 : decode b_M_put 132 = .ok (.aload_n 0, 1) := by decide +kernel
theorem d_M_put_133 : decode b_M_put 133 = .ok (.getfield 23, 3) := by decide +kernel
theorem d_M_put_136 : decode b_M_put 136 = .ok (.aload_n 0, 1) := by decide +kernel
theorem d_M_put_137 : decode b_M_put 137 = .ok (.getfield 118, 3) := by decide +kernel
theorem d_M_put_140 : decode b_M_put 140 = .ok (.iload_n 3, 1) := by decide +kernel
theorem d_M_put_141 : decode b_M_put 141 = .ok (.iadd, 1) := by decide +kernel
theorem d_M_put_142 : decode b_M_put 142 = .ok (.iconst 1, 1) := by decide +kernel
theorem d_M_put_143 : decode b_M_put 143 = .ok (.isub, 1) := by decide +kernel
theorem d_M_put_144 : decode b_M_put 144 = .ok (.iload 5, 2) := by decide +kernel
theorem d_M_put_146 : decode b_M_put 146 = .ok (.isub, 1) := by decide +kernel
theorem d_M_put_147 : decode b_M_put 147 = .ok (.lload_n 1, 1) := by decide +kernel
theorem d_M_put_148 : decode b_M_put 148 = .ok (.bipush 8, 2) := by decide +kernel
theorem d_M_put_150 : decode b_M_put 150 = .ok (.iload 5, 2) := by decide +kernel
theorem d_M_put_152 : decode b_M_put 152 = .ok (.imul, 1) := by decide +kernel
theorem d_M_put_153 : decode b_M_put 153 = .ok (.lushr, 1) := by decide +kernel
theorem d_M_put_154 : decode b_M_put 154 = .ok (.ldc2_w 121, 3) := by decide +kernel
theorem d_M_put_157 : decode b_M_put 157 = .ok (.land, 1) := by decide +kernel
theorem d_M_put_158 : decode b_M_put 158 = .ok (.l2i, 1) := by decide +kernel
theorem d_M_put_159 : decode b_M_put 159 = .ok (.iastore, 1) := by decide +kernel
theorem d_M_put_160 : decode b_M_put 160 = .ok (.iinc 5 1, 3) := by decide +kernel
theorem d_M_put_163 : decode b_M_put 163 = .ok (.goto (-37), 3) := by decide +kernel
theorem d_M_put_166 : decode b_M_put 166 = .ok (.aload_n 0, 1) := by decide +kernel
theorem d_M_put_167 : decode b_M_put 167 = .ok (.dup, 1) := by decide +kernel
theorem d_M_put_168 : decode b_M_put 168 = .ok (.getfield 118, 3) := by decide +kernel
theorem d_M_put_171 : decode b_M_put 171 = .ok (.iload_n 3, 1) := by decide +kernel
theorem d_M_put_172 : decode b_M_put 172 = .ok (.iadd, 1) := by decide +kernel
theorem d_M_put_173 : decode b_M_put 173 = .ok (.putfield 118, 3) := by decide +kernel
theorem d_M_put_176 : decode b_M_put 176 = .ok (.aload_n 0, 1) := by decide +kernel
theorem d_M_put_177 : decode b_M_put 177 = .ok (.getfield 118, 3) := by decide +kernel
theorem d_M_put_180 : decode b_M_put 180 = .ok (.ireturn, 1) := by decide +kernel
theorem d_M_wipe_0 : decode b_M_wipe 0 = .ok (.aload_n 0, 1) := by decide +kernel
theorem d_M_wipe_1 : decode b_M_wipe 1 = .ok (.getfield 118, 3) := by decide +kernel
theorem d_M_wipe_4 : decode b_M_wipe 4 = .ok (.istore_n 1, 1) := by decide +kernel
theorem d_M_wipe_5 : decode b_M_wipe 5 = .ok (.aload_n 0, 1) := by decide +kernel
theorem d_M_wipe_6 : decode b_M_wipe 6 = .ok (.iconst 0, 1) := by decide +kernel
theorem d_M_wipe_7 : decode b_M_wipe 7 = .ok (.putfield 118, 3) := by decide +kernel
theorem d_M_wipe_10 : decode b_M_wipe 10 = .ok (.iload_n 1, 1) := by decide +kernel
theorem d_M_wipe_11 : decode b_M_wipe 11 = .ok (.ireturn, 1) := by decide +kernel
theorem d_M_sign_0 : decode b_M_sign 0 = .ok (.aload_n 0, 1) := by decide +kernel
theorem d_M_sign_1 : decode b_M_sign 1 = .ok (.getfield 123, 3) := by decide +kernel
theorem d_M_sign_4 : decode b_M_sign 4 = .ok (.aload_n 0, 1) := by decide +kernel
theorem d_M_sign_5 : decode b_M_sign 5 = .ok (.getfield 118, 3) := by decide +kernel
theorem d_M_sign_8 : decode b_M_sign 8 = .ok (.if_icmp .ge 15, 3) := by decide +kernel
theorem d_M_sign_11 : decode b_M_sign 11 = .ok (.aload_n 0, 1) := by decide +kernel
theorem d_M_sign_12 : decode b_M_sign 12 = .ok (.getfield 23, 3) := by decide +kernel
theorem d_M_sign_15 : decode b_M_sign 15 = .ok (.aload_n 0, 1) := by decide +kernel
theorem d_M_sign_16 : decode b_M_sign 16 = .ok (.getfield 123, 3) := by decide +kernel
theorem d_M_sign_19 : decode b_M_sign 19 = .ok (.iaload, 1) := by decide +kernel
theorem d_M_sign_20 : decode b_M_sign 20 = .ok (.goto 4, 3) := by decide +kernel
theorem d_M_sign_23 : decode b_M_sign 23 = .ok (.iconst 0, 1) := by decide +kernel
theorem d_M_sign_24 : decode b_M_sign 24 = .ok (.istore_n 3, 1) := by decide +kernel
theorem d_M_sign_25 : decode b_M_sign 25 = .ok (.aload_n 0, 1) := by decide +kernel
theorem d_M_sign_26 : decode b_M_sign 26 = .ok (.aload_n 0, 1) := by decide +kernel
theorem d_M_sign_27 : decode b_M_sign 27 = .ok (.getfield 126, 3) := by decide +kernel
theorem d_M_sign_30 : decode b_M_sign 30 = .ok (.ifCond .ne 12, 3) := by decide +kernel
theorem d_M_sign_33 : decode b_M_sign 33 = .ok (.iload_n 3, 1) := by decide +kernel
theorem d_M_sign_34 : decode b_M_sign 34 = .ok (.iload_n 1, 1) := by decide +kernel
theorem d_M_sign_35 : decode b_M_sign 35 = .ok (.iload_n 2, 1) := by decide +kernel
theorem d_M_sign_36 : decode b_M_sign 36 = .ok (.invokestatic 26, 3) := by decide +kernel
theorem d_M_sign_39 : decode b_M_sign 39 = .ok (.ifCond .ne 7, 3) := by decide +kernel
theorem d_M_sign_42 : decode b_M_sign 42 = .ok (.iconst 1, 1) := by decide +kernel
theorem d_M_sign_43 : decode b_M_sign 43 = .ok (.goto 4, 3) := by decide +kernel
theorem d_M_sign_46 : decode b_M_sign 46 = .ok (.iconst 0, 1) := by decide +kernel
theorem d_M_sign_47 : decode b_M_sign 47 = .ok (.putfield 126, 3) := by decide +kernel
theorem d_M_sign_50 : decode b_M_sign 50 = .ok (.aload_n 0, 1) := by decide +kernel
theorem d_M_sign_51 : decode b_M_sign 51 = .ok (.dup, 1) := by decide +kernel
theorem d_M_sign_52 : decode b_M_sign 52 = .ok (.getfield 123, 3) := by decide +kernel
theorem d_M_sign_55 : decode b_M_sign 55 = .ok (.aload_n 0, 1) := by decide +kernel
theorem d_M_sign_56 : decode b_M_sign 56 = .ok (.getfield 126, 3) := by decide +kernel
theorem d_M_sign_59 : decode b_M_sign 59 = .ok (.ifCond .eq 7, 3) := by decide +kernel
theorem d_M_sign_62 : decode b_M_sign 62 = .ok (.iconst 0, 1) := by decide +kernel
theorem d_M_sign_63 : decode b_M_sign 63 = .ok (.goto 4, 3) := by decide +kernel
theorem d_M_sign_66 : decode b_M_sign 66 = .ok (.iconst 1, 1) := by decide +kernel
theorem d_M_sign_67 : decode b_M_sign 67 = .ok (.iadd, 1) := by decide +kernel
theorem d_M_sign_68 : decode b_M_sign 68 = .ok (.putfield 123, 3) := by decide +kernel
theorem d_M_sign_71 : decode b_M_sign 71 = .ok (.iload_n 3, 1) := by decide +kernel
theorem d_M_sign_72 : decode b_M_sign 72 = .ok (.ireturn, 1) := by decide +kernel
theorem d_M_isNext_0 : decode b_M_isNext 0 = .ok (.aload_n 0, 1) := by decide +kernel
theorem d_M_isNext_1 : decode b_M_isNext 1 = .ok (.getfield 126, 3) := by decide +kernel
theorem d_M_isNext_4 : decode b_M_isNext 4 = .ok (.ifCond .ne 35, 3) := by decide +kernel
theorem d_M_isNext_7 : decode b_M_isNext 7 = .ok (.aload_n 0, 1) := by decide +kernel
theorem d_M_isNext_8 : decode b_M_isNext 8 = .ok (.getfield 123, 3) := by decide +kernel
theorem d_M_isNext_11 : decode b_M_isNext 11 = .ok (.aload_n 0, 1) := by decide +kernel
theorem d_M_isNext_12 : decode b_M_isNext 12 = .ok (.getfield 118, 3) := by decide +kernel
theorem d_M_isNext_15 : decode b_M_isNext 15 = .ok (.if_icmp .ge 24, 3) := by decide +kernel
theorem d_M_isNext_18 : decode b_M_isNext 18 = .ok (.aload_n 0, 1) := by decide +kernel
theorem d_M_isNext_19 : decode b_M_isNext 19 = .ok (.getfield 23, 3) := by decide +kernel
theorem d_M_isNext_22 : decode b_M_isNext 22 = .ok (.aload_n 0, 1) := by decide +kernel
theorem d_M_isNext_23 : decode b_M_isNext 23 = .ok (.getfield 123, 3) := by decide +kernel
theorem d_M_isNext_26 : decode b_M_isNext 26 = .ok (.iaload, 1) := by decide +kernel
theorem d_M_isNext_27 : decode b_M_isNext 27 = .ok (.iload_n 1, 1) := by decide +kernel
theorem d_M_isNext_28 : decode b_M_isNext 28 = .ok (.iload_n 2, 1) := by decide +kernel
theorem d_M_isNext_29 : decode b_M_isNext 29 = .ok (.invokestatic 26, 3) := by decide +kernel
theorem d_M_isNext_32 : decode b_M_isNext 32 = .ok (.ifCond .eq 7, 3) := by decide +kernel
theorem d_M_isNext_35 : decode b_M_isNext 35 = .ok (.iconst 1, 1) := by decide +kernel
theorem d_M_isNext_36 : decode b_M_isNext 36 = .ok (.goto 4, 3) := by decide +kernel
theorem d_M_isNext_39 : decode b_M_isNext 39 = .ok (.iconst 0, 1) := by decide +kernel
theorem d_M_isNext_40 : decode b_M_isNext 40 = .ok (.ireturn, 1) := by decide +kernel
theorem d_M_number_0 : decode b_M_number 0 = .ok (.aload_n 0, 1) := by decide +kernel
theorem d_M_number_1 : decode b_M_number 1 = .ok (.bipush 48, 2) := by decide +kernel
theorem d_M_number_3 : decode b_M_number 3 = .ok (.bipush 57, 2) := by decide +kernel
theorem d_M_number_5 : decode b_M_number 5 = .ok (.invokevirtual 130, 3) := by decide +kernel
theorem d_M_number_8 : decode b_M_number 8 = .ok (.bipush 48, 2) := by decide +kernel
theorem d_M_number_10 : decode b_M_number 10 = .ok (.isub, 1) := by decide +kernel
theorem d_M_number_11 : decode b_M_number 11 = .ok (.istore_n 1, 1) := by decide +kernel
theorem d_M_number_12 : decode b_M_number 12 = .ok (.iconst 1, 1) := by decide +kernel
theorem d_M_number_13 : decode b_M_number 13 = .ok (.istore_n 2, 1) := by decide +kernel
theorem d_M_number_14 : decode b_M_number 14 = .ok (.iload_n 2, 1) := by decide +kernel
theorem d_M_number_15 : decode b_M_number 15 = .ok (.iconst 4, 1) := by decide +kernel
theorem d_M_number_16 : decode b_M_number 16 = .ok (.if_icmp .ge 41, 3) := by decide +kernel
theorem d_M_number_19 : decode b_M_number 19 = .ok (.iload_n 1, 1) := by decide +kernel
theorem d_M_number_20 : decode b_M_number 20 = .ok (.ifCond .le 37, 3) := by decide +kernel
theorem d_M_number_23 : decode b_M_number 23 = .ok (.aload_n 0, 1) := by decide +kernel
theorem d_M_number_24 : decode b_M_number 24 = .ok (.bipush 48, 2) := by decide +kernel
theorem d_M_number_26 : decode b_M_number 26 = .ok (.bipush 57, 2) := by decide +kernel
theorem d_M_number_28 : decode b_M_number 28 = .ok (.invokevirtual 133, 3) := by decide +kernel
theorem d_M_number_31 : decode b_M_number 31 = .ok (.ifCond .eq 26, 3) := by decide +kernel
theorem d_M_number_34 : decode b_M_number 34 = .ok (.bipush 10, 2) := by decide +kernel
theorem d_M_number_36 : decode b_M_number 36 = .ok (.iload_n 1, 1) := by decide +kernel
theorem d_M_number_37 : decode b_M_number 37 = .ok (.imul, 1) := by decide +kernel
theorem d_M_number_38 : decode b_M_number 38 = .ok (.aload_n 0, 1) := by decide +kernel
theorem d_M_number_39 : decode b_M_number 39 = .ok (.bipush 48, 2) := by decide +kernel
theorem d_M_number_41 : decode b_M_number 41 = .ok (.bipush 57, 2) := by decide +kernel
theorem d_M_number_43 : decode b_M_number 43 = .ok (.invokevirtual 130, 3) := by decide +kernel
theorem d_M_number_46 : decode b_M_number 46 = .ok (.iadd, 1) := by decide +kernel
theorem d_M_number_47 : decode b_M_number 47 = .ok (.bipush 48, 2) := by decide +kernel
theorem d_M_number_49 : decode b_M_number 49 = .ok (.isub, 1) := by decide +kernel
theorem d_M_number_50 : decode b_M_number 50 = .ok (.istore_n 1, 1) := by decide +kernel
theorem d_M_number_51 : decode b_M_number 51 = .ok (.iinc 2 1, 3) := by decide +kernel
theorem d_M_number_54 : decode b_M_number 54 = .ok (.goto (-40), 3) := by decide +kernel
theorem d_M_number_57 : decode b_M_number 57 = .ok (.iload_n 1, 1) := by decide +kernel
theorem d_M_number_58 : decode b_M_number 58 = .ok (.ireturn, 1) := by decide +kernel
theorem d_M_order_0 : decode b_M_order 0 = .ok (.aload_n 0, 1) := by decide +kernel
theorem d_M_order_1 : decode b_M_order 1 = .ok (.getfield 123, 3) := by decide +kernel
theorem d_M_order_4 : decode b_M_order 4 = .ok (.aload_n 0, 1) := by decide +kernel
theorem d_M_order_5 : decode b_M_order 5 = .ok (.getfield 118, 3) := by decide +kernel
theorem d_M_order_8 : decode b_M_order 8 = .ok (.if_icmp .ge 15, 3) := by decide +kernel
theorem d_M_order_11 : decode b_M_order 11 = .ok (.aload_n 0, 1) := by decide +kernel
theorem d_M_order_12 : decode b_M_order 12 = .ok (.getfield 23, 3) := by decide +kernel
theorem d_M_order_15 : decode b_M_order 15 = .ok (.aload_n 0, 1) := by decide +kernel
theorem d_M_order_16 : decode b_M_order 16 = .ok (.getfield 123, 3) := by decide +kernel
theorem d_M_order_19 : decode b_M_order 19 = .ok (.iaload, 1) := by decide +kernel
theorem d_M_order_20 : decode b_M_order 20 = .ok (.goto 4, 3) := by decide +kernel
theorem d_M_order_23 : decode b_M_order 23 = .ok (.iconst 0, 1) := by decide +kernel
theorem d_M_order_24 : decode b_M_order 24 = .ok (.istore_n 1, 1) := by decide +kernel
theorem d_M_order_25 : decode b_M_order 25 = .ok (.iload_n 1, 1) := by decide +kernel
theorem d_M_order_26 : decode b_M_order 26 = .ok (.bipush 119, 2) := by decide +kernel
theorem d_M_order_28 : decode b_M_order 28 = .ok (.if_icmp .eq 15, 3) := by decide +kernel
theorem d_M_order_31 : decode b_M_order 31 = .ok (.iload_n 1, 1) := by decide +kernel
theorem d_M_order_32 : decode b_M_order 32 = .ok (.bipush 114, 2) := by decide +kernel
theorem d_M_order_34 : decode b_M_order 34 = .ok (.if_icmp .eq 9, 3) := by decide +kernel
theorem d_M_order_37 : decode b_M_order 37 = .ok (.iload_n 1, 1) := by decide +kernel
theorem d_M_order_38 : decode b_M_order 38 = .ok (.bipush 99, 2) := by decide +kernel
theorem d_M_order_40 : decode b_M_order 40 = .ok (.if_icmp .ne 7, 3) := by decide +kernel
theorem d_M_order_43 : decode b_M_order 43 = .ok (.iconst 1, 1) := by decide +kernel
theorem d_M_order_44 : decode b_M_order 44 = .ok (.goto 4, 3) := by decide +kernel
theorem d_M_order_47 : decode b_M_order 47 = .ok (.iconst 0, 1) := by decide +kernel
theorem d_M_order_48 : decode b_M_order 48 = .ok (.istore_n 2, 1) := by decide +kernel
theorem d_M_order_49 : decode b_M_order 49 = .ok (.aload_n 0, 1) := by decide +kernel
theorem d_M_order_50 : decode b_M_order 50 = .ok (.aload_n 0, 1) := by decide +kernel
theorem d_M_order_51 : decode b_M_order 51 = .ok (.getfield 126, 3) := by decide +kernel
theorem d_M_order_54 : decode b_M_order 54 = .ok (.ifCond .ne 19, 3) := by decide +kernel
theorem d_M_order_57 : decode b_M_order 57 = .ok (.iload_n 2, 1) := by decide +kernel
theorem d_M_order_58 : decode b_M_order 58 = .ok (.ifCond .ne 19, 3) := by decide +kernel
theorem d_M_order_61 : decode b_M_order 61 = .ok (.iload_n 1, 1) := by decide +kernel
theorem d_M_order_62 : decode b_M_order 62 = .ok (.bipush 109, 2) := by decide +kernel
theorem d_M_order_64 : decode b_M_order 64 = .ok (.if_icmp .eq 13, 3) := by decide +kernel
theorem d_M_order_67 : decode b_M_order 67 = .ok (.iload_n 1, 1) := by decide +kernel
theorem d_M_order_68 : decode b_M_order 68 = .ok (.bipush 120, 2) := by decide +kernel
theorem d_M_order_70 : decode b_M_order 70 = .ok (.if_icmp .eq 7, 3) := by decide +kernel
theorem d_M_order_73 : decode b_M_order 73 = .ok (.iconst 1, 1) := by decide +kernel
theorem d_M_order_74 : decode b_M_order 74 = .ok (.goto 4, 3) := by decide +kernel
theorem d_M_order_77 : decode b_M_order 77 = .ok (.iconst 0, 1) := by decide +kernel
theorem d_M_order_78 : decode b_M_order 78 = .ok (.putfield 126, 3) := by decide +kernel
theorem d_M_order_81 : decode b_M_order 81 = .ok (.aload_n 0, 1) := by decide +kernel
theorem d_M_order_82 : decode b_M_order 82 = .ok (.dup, 1) := by decide +kernel
theorem d_M_order_83 : decode b_M_order 83 = .ok (.getfield 123, 3) := by decide +kernel
theorem d_M_order_86 : decode b_M_order 86 = .ok (.aload_n 0, 1) := by decide +kernel
theorem d_M_order_87 : decode b_M_order 87 = .ok (.getfield 126, 3) := by decide +kernel
theorem d_M_order_90 : decode b_M_order 90 = .ok (.ifCond .eq 7, 3) := by decide +kernel
theorem d_M_order_93 : decode b_M_order 93 = .ok (.iconst 0, 1) := by decide +kernel
theorem d_M_order_94 : decode b_M_order 94 = .ok (.goto 4, 3) := by decide +kernel
theorem d_M_order_97 : decode b_M_order 97 = .ok (.iconst 1, 1) := by decide +kernel
theorem d_M_order_98 : decode b_M_order 98 = .ok (.iadd, 1) := by decide +kernel
theorem d_M_order_99 : decode b_M_order 99 = .ok (.putfield 123, 3) := by decide +kernel
theorem d_M_order_102 : decode b_M_order 102 = .ok (.aload_n 0, 1) := by decide +kernel
theorem d_M_order_103 : decode b_M_order 103 = .ok (.iload_n 1, 1) := by decide +kernel
theorem d_M_order_104 : decode b_M_order 104 = .ok (.putfield 136, 3) := by decide +kernel
theorem d_M_order_107 : decode b_M_order 107 = .ok (.aload_n 0, 1) := by decide +kernel
theorem d_M_order_108 : decode b_M_order 108 = .ok (.iload_n 2, 1) := by decide +kernel
theorem d_M_order_109 : decode b_M_order 109 = .ok (.ifCond .eq 17, 3) := by decide +kernel
theorem d_M_order_112 : decode b_M_order 112 = .ok (.aload_n 0, 1) := by decide +kernel
theorem d_M_order_113 : decode b_M_order 113 = .ok (.bipush 48, 2) := by decide +kernel
theorem d_M_order_115 : decode b_M_order 115 = .ok (.bipush 49, 2) := by decide +kernel
theorem d_M_order_117 : decode b_M_order 117 = .ok (.invokevirtual 130, 3) := by decide +kernel
theorem d_M_order_120 : decode b_M_order 120 = .ok (.bipush 48, 2) := by decide +kernel
theorem d_M_order_122 : decode b_M_order 122 = .ok (.isub, 1) := by decide +kernel
theorem d_M_order_123 : decode b_M_order 123 = .ok (.goto 4, 3) := by decide +kernel
theorem d_M_order_126 : decode b_M_order 126 = .ok (.iconst 0, 1) := by decide +kernel
theorem d_M_order_127 : decode b_M_order 127 = .ok (.putfield 139, 3) := by decide +kernel
theorem d_M_order_130 : decode b_M_order 130 = .ok (.iload_n 2, 1) := by decide +kernel
theorem d_M_order_131 : decode b_M_order 131 = .ok (.ifCond .eq 36, 3) := by decide +kernel
theorem d_M_order_134 : decode b_M_order 134 = .ok (.aload_n 0, 1) := by decide +kernel
theorem d_M_order_135 : decode b_M_order 135 = .ok (.iload_n 1, 1) := by decide +kernel
theorem d_M_order_136 : decode b_M_order 136 = .ok (.bipush 119, 2) := by decide +kernel
theorem d_M_order_138 : decode b_M_order 138 = .ok (.if_icmp .ne 8, 3) := by decide +kernel
theorem d_M_order_141 : decode b_M_order 141 = .ok (.bipush 58, 2) := by decide +kernel
theorem d_M_order_143 : decode b_M_order 143 = .ok (.goto 5, 3) := by decide +kernel
theorem d_M_order_146 : decode b_M_order 146 = .ok (.bipush 46, 2) := by decide +kernel
theorem d_M_order_148 : decode b_M_order 148 = .ok (.iload_n 1, 1) := by decide +kernel
theorem d_M_order_149 : decode b_M_order 149 = .ok (.bipush 119, 2) := by decide +kernel
theorem d_M_order_151 : decode b_M_order 151 = .ok (.if_icmp .ne 8, 3) := by decide +kernel
theorem d_M_order_154 : decode b_M_order 154 = .ok (.bipush 58, 2) := by decide +kernel
theorem d_M_order_156 : decode b_M_order 156 = .ok (.goto 5, 3) := by decide +kernel
theorem d_M_order_159 : decode b_M_order 159 = .ok (.bipush 46, 2) := by decide +kernel
theorem d_M_order_161 : decode b_M_order 161 = .ok (.invokevirtual 130, 3) := by decide +kernel
theorem d_M_order_164 : decode b_M_order 164 = .ok (.goto 4, 3) := by decide +kernel
theorem d_M_order_167 : decode b_M_order 167 = .ok (.iconst 0, 1) := by decide +kernel
theorem d_M_order_168 : decode b_M_order 168 = .ok (.istore_n 3, 1) := by decide +kernel
theorem d_M_order_169 : decode b_M_order 169 = .ok (.aload_n 0, 1) := by decide +kernel
theorem d_M_order_170 : decode b_M_order 170 = .ok (.iload_n 1, 1) := by decide +kernel
theorem d_M_order_171 : decode b_M_order 171 = .ok (.bipush 120, 2) := by decide +kernel
theorem d_M_order_173 : decode b_M_order 173 = .ok (.if_icmp .ne 7, 3) := by decide +kernel
theorem d_M_order_176 : decode b_M_order 176 = .ok (.iconst 0, 1) := by decide +kernel
theorem d_M_order_177 : decode b_M_order 177 = .ok (.goto 7, 3) := by decide +kernel
theorem d_M_order_180 : decode b_M_order 180 = .ok (.aload_n 0, 1) := by decide +kernel
theorem d_M_order_181 : decode b_M_order 181 = .ok (.invokevirtual 142, 3) := by decide +kernel
theorem d_M_order_184 : decode b_M_order 184 = .ok (.putfield 145, 3) := by decide +kernel
theorem d_M_order_187 : decode b_M_order 187 = .ok (.iload_n 1, 1) := by decide +kernel
theorem d_M_order_188 : decode b_M_order 188 = .ok (.bipush 119, 2) := by decide +kernel
theorem d_M_order_190 : decode b_M_order 190 = .ok (.if_icmp .ne 14, 3) := by decide +kernel
theorem d_M_order_193 : decode b_M_order 193 = .ok (.aload_n 0, 1) := by decide +kernel
theorem d_M_order_194 : decode b_M_order 194 = .ok (.bipush 35, 2) := by decide +kernel
theorem d_M_order_196 : decode b_M_order 196 = .ok (.bipush 35, 2) := by decide +kernel
theorem d_M_order_198 : decode b_M_order 198 = .ok (.invokevirtual 130, 3) := by decide +kernel
theorem d_M_order_201 : decode b_M_order 201 = .ok (.goto 4, 3) := by decide +kernel
theorem d_M_order_204 : decode b_M_order 204 = .ok (.iconst 0, 1) := by decide +kernel
theorem d_M_order_205 : decode b_M_order 205 = .ok (.istore_n 3, 1) := by decide +kernel
theorem d_M_order_206 : decode b_M_order 206 = .ok (.aload_n 0, 1) := by decide +kernel
theorem d_M_order_207 : decode b_M_order 207 = .ok (.iload_n 1, 1) := by decide +kernel
theorem d_M_order_208 : decode b_M_order 208 = .ok (.bipush 119, 2) := by decide +kernel
theorem d_M_order_210 : decode b_M_order 210 = .ok (.if_icmp .ne 10, 3) := by decide +kernel
theorem d_M_order_213 : decode b_M_order 213 = .ok (.aload_n 0, 1) := by decide +kernel
theorem d_M_order_214 : decode b_M_order 214 = .ok (.invokevirtual 142, 3) := by decide +kernel
theorem d_M_order_217 : decode b_M_order 217 = .ok (.goto 4, 3) := by decide +kernel
theorem d_M_order_220 : decode b_M_order 220 = .ok (.iconst 0, 1) := by decide +kernel
theorem d_M_order_221 : decode b_M_order 221 = .ok (.putfield 148, 3) := by decide +kernel
theorem d_M_order_224 : decode b_M_order 224 = .ok (.iload_n 1, 1) := by decide +kernel
theorem d_M_order_225 : decode b_M_order 225 = .ok (.bipush 114, 2) := by decide +kernel
theorem d_M_order_227 : decode b_M_order 227 = .ok (.if_icmp .ne 28, 3) := by decide +kernel
theorem d_M_order_230 : decode b_M_order 230 = .ok (.aload_n 0, 1) := by decide +kernel
theorem d_M_order_231 : decode b_M_order 231 = .ok (.bipush 45, 2) := by decide +kernel
theorem d_M_order_233 : decode b_M_order 233 = .ok (.bipush 45, 2) := by decide +kernel
theorem d_M_order_235 : decode b_M_order 235 = .ok (.invokevirtual 133, 3) := by decide +kernel
theorem d_M_order_238 : decode b_M_order 238 = .ok (.ifCond .eq 17, 3) := by decide +kernel
theorem d_M_order_241 : decode b_M_order 241 = .ok (.aload_n 0, 1) := by decide +kernel
theorem d_M_order_242 : decode b_M_order 242 = .ok (.iconst 1, 1) := by decide +kernel
theorem d_M_order_243 : decode b_M_order 243 = .ok (.putfield 148, 3) := by decide +kernel
theorem d_M_order_246 : decode b_M_order 246 = .ok (.aload_n 0, 1) := by decide +kernel
theorem d_M_order_247 : decode b_M_order 247 = .ok (.bipush 45, 2) := by decide +kernel
theorem d_M_order_249 : decode b_M_order 249 = .ok (.bipush 45, 2) := by decide +kernel
theorem d_M_order_251 : decode b_M_order 251 = .ok (.invokevirtual 130, 3) := by decide +kernel
theorem d_M_order_254 : decode b_M_order 254 = .ok (.istore_n 3, 1) := by decide +kernel
theorem d_M_order_255 : decode b_M_order 255 = .ok (.return_, 1) := by decide +kernel
theorem d_M_does_0 : decode b_M_does 0 = .ok (.aload_n 0, 1) := by decide +kernel
theorem d_M_does_1 : decode b_M_does 1 = .ok (.getfield 136, 3) := by decide +kernel
theorem d_M_does_4 : decode b_M_does 4 = .ok (.istore_n 1, 1) := by decide +kernel
theorem d_M_does_5 : decode b_M_does 5 = .ok (.iload_n 1, 1) := by decide +kernel
theorem d_M_does_6 : decode b_M_does 6 = .ok (.bipush 119, 2) := by decide +kernel
theorem d_M_does_8 : decode b_M_does 8 = .ok (.if_icmp .ne 22, 3) := by decide +kernel
theorem d_M_does_11 : decode b_M_does 11 = .ok (.aload_n 0, 1) := by decide +kernel
theorem d_M_does_12 : decode b_M_does 12 = .ok (.aload_n 0, 1) := by decide +kernel
theorem d_M_does_13 : decode b_M_does 13 = .ok (.getfield 139, 3) := by decide +kernel
theorem d_M_does_16 : decode b_M_does 16 = .ok (.aload_n 0, 1) := by decide +kernel
theorem d_M_does_17 : decode b_M_does 17 = .ok (.getfield 145, 3) := by decide +kernel
theorem d_M_does_20 : decode b_M_does 20 = .ok (.aload_n 0, 1) := by decide +kernel
theorem d_M_does_21 : decode b_M_does 21 = .ok (.getfield 148, 3) := by decide +kernel
theorem d_M_does_24 : decode b_M_does 24 = .ok (.invokevirtual 85, 3) := by decide +kernel
theorem d_M_does_27 : decode b_M_does 27 = .ok (.goto 74, 3) := by decide +kernel
theorem d_M_does_30 : decode b_M_does 30 = .ok (.iload_n 1, 1) := by decide +kernel
theorem d_M_does_31 : decode b_M_does 31 = .ok (.bipush 114, 2) := by decide +kernel
theorem d_M_does_33 : decode b_M_does 33 = .ok (.if_icmp .ne 22, 3) := by decide +kernel
theorem d_M_does_36 : decode b_M_does 36 = .ok (.aload_n 0, 1) := by decide +kernel
theorem d_M_does_37 : decode b_M_does 37 = .ok (.aload_n 0, 1) := by decide +kernel
theorem d_M_does_38 : decode b_M_does 38 = .ok (.getfield 139, 3) := by decide +kernel
theorem d_M_does_41 : decode b_M_does 41 = .ok (.aload_n 0, 1) := by decide +kernel
theorem d_M_does_42 : decode b_M_does 42 = .ok (.getfield 145, 3) := by decide +kernel
theorem d_M_does_45 : decode b_M_does 45 = .ok (.aload_n 0, 1) := by decide +kernel
theorem d_M_does_46 : decode b_M_does 46 = .ok (.getfield 148, 3) := by decide +kernel
theorem d_M_does_49 : decode b_M_does 49 = .ok (.invokevirtual 103, 3) := by decide +kernel
theorem d_M_does_52 : decode b_M_does 52 = .ok (.goto 49, 3) := by decide +kernel
theorem d_M_does_55 : decode b_M_does 55 = .ok (.iload_n 1, 1) := by decide +kernel
theorem d_M_does_56 : decode b_M_does 56 = .ok (.bipush 99, 2) := by decide +kernel
theorem d_M_does_58 : decode b_M_does 58 = .ok (.if_icmp .ne 18, 3) := by decide +kernel
theorem d_M_does_61 : decode b_M_does 61 = .ok (.aload_n 0, 1) := by decide +kernel
theorem d_M_does_62 : decode b_M_does 62 = .ok (.aload_n 0, 1) := by decide +kernel
theorem d_M_does_63 : decode b_M_does 63 = .ok (.getfield 139, 3) := by decide +kernel
theorem d_M_does_66 : decode b_M_does 66 = .ok (.aload_n 0, 1) := by decide +kernel
theorem d_M_does_67 : decode b_M_does 67 = .ok (.getfield 145, 3) := by decide +kernel
theorem d_M_does_70 : decode b_M_does 70 = .ok (.invokevirtual 91, 3) := by decide +kernel
theorem d_M_does_73 : decode b_M_does 73 = .ok (.goto 28, 3) := by decide +kernel
theorem d_M_does_76 : decode b_M_does 76 = .ok (.iload_n 1, 1) := by decide +kernel
theorem d_M_does_77 : decode b_M_does 77 = .ok (.bipush 109, 2) := by decide +kernel
theorem d_M_does_79 : decode b_M_does 79 = .ok (.if_icmp .ne 21, 3) := by decide +kernel
theorem d_M_does_82 : decode b_M_does 82 = .ok (.aload_n 0, 1) := by decide +kernel
theorem d_M_does_83 : decode b_M_does 83 = .ok (.getfield 145, 3) := by decide +kernel
theorem d_M_does_86 : decode b_M_does 86 = .ok (.aload_n 0, 1) := by decide +kernel
theorem d_M_does_87 : decode b_M_does 87 = .ok (.getfield 7, 3) := by decide +kernel
theorem d_M_does_90 : decode b_M_does 90 = .ok (.iconst 0, 1) := by decide +kernel
theorem d_M_does_91 : decode b_M_does 91 = .ok (.iaload, 1) := by decide +kernel
theorem d_M_does_92 : decode b_M_does 92 = .ok (.if_icmp .le 8, 3) := by decide +kernel
theorem d_M_does_95 : decode b_M_does 95 = .ok (.bipush (-2), 2) := by decide +kernel
theorem d_M_does_97 : decode b_M_does 97 = .ok (.goto 4, 3) := by decide +kernel
theorem d_M_does_100 : decode b_M_does 100 = .ok (.iconst 0, 1) := by decide +kernel
theorem d_M_does_101 : decode b_M_does 101 = .ok (.istore_n 2, 1) := by decide +kernel
theorem d_M_does_102 : decode b_M_does 102 = .ok (.iload_n 2, 1) := by decide +kernel
theorem d_M_does_103 : decode b_M_does 103 = .ok (.ifCond .ne 96, 3) := by decide +kernel
theorem d_M_does_106 : decode b_M_does 106 = .ok (.iload_n 1, 1) := by decide +kernel
theorem d_M_does_107 : decode b_M_does 107 = .ok (.bipush 119, 2) := by decide +kernel
theorem d_M_does_109 : decode b_M_does 109 = .ok (.if_icmp .ne 22, 3) := by decide +kernel
theorem d_M_does_112 : decode b_M_does 112 = .ok (.aload_n 0, 1) := by decide +kernel
theorem d_M_does_113 : decode b_M_does 113 = .ok (.aload_n 0, 1) := by decide +kernel
theorem d_M_does_114 : decode b_M_does 114 = .ok (.getfield 139, 3) := by decide +kernel
theorem d_M_does_117 : decode b_M_does 117 = .ok (.aload_n 0, 1) := by decide +kernel
theorem d_M_does_118 : decode b_M_does 118 = .ok (.getfield 145, 3) := by decide +kernel
theorem d_M_does_121 : decode b_M_does 121 = .ok (.aload_n 0, 1) := by decide +kernel
theorem d_M_does_122 : decode b_M_does 122 = .ok (.getfield 148, 3) := by decide +kernel
theorem d_M_does_125 : decode b_M_does 125 = .ok (.invokevirtual 88, 3) := by decide +kernel
theorem d_M_does_128 : decode b_M_does 128 = .ok (.goto 70, 3) := by decide +kernel
theorem d_M_does_131 : decode b_M_does 131 = .ok (.iload_n 1, 1) := by decide +kernel
theorem d_M_does_132 : decode b_M_does 132 = .ok (.bipush 114, 2) := by decide +kernel
theorem d_M_does_134 : decode b_M_does 134 = .ok (.if_icmp .ne 22, 3) := by decide +kernel
theorem d_M_does_137 : decode b_M_does 137 = .ok (.aload_n 0, 1) := by decide +kernel
theorem d_M_does_138 : decode b_M_does 138 = .ok (.aload_n 0, 1) := by decide +kernel
theorem d_M_does_139 : decode b_M_does 139 = .ok (.getfield 139, 3) := by decide +kernel
theorem d_M_does_142 : decode b_M_does 142 = .ok (.aload_n 0, 1) := by decide +kernel
theorem d_M_does_143 : decode b_M_does 143 = .ok (.getfield 145, 3) := by decide +kernel
theorem d_M_does_146 : decode b_M_does 146 = .ok (.aload_n 0, 1) := by decide +kernel
theorem d_M_does_147 : decode b_M_does 147 = .ok (.getfield 148, 3) := by decide +kernel
theorem d_M_does_150 : decode b_M_does 150 = .ok (.invokevirtual 106, 3) := by decide +kernel
theorem d_M_does_153 : decode b_M_does 153 = .ok (.goto 45, 3) := by decide +kernel
theorem d_M_does_156 : decode b_M_does 156 = .ok (.iload_n 1, 1) := by decide +kernel
theorem d_M_does_157 : decode b_M_does 157 = .ok (.bipush 99, 2) := by decide +kernel
theorem d_M_does_159 : decode b_M_does 159 = .ok (.if_icmp .ne 18, 3) := by decide +kernel
theorem d_M_does_162 : decode b_M_does 162 = .ok (.aload_n 0, 1) := by decide +kernel
theorem d_M_does_163 : decode b_M_does 163 = .ok (.aload_n 0, 1) := by decide +kernel
theorem d_M_does_164 : decode b_M_does 164 = .ok (.getfield 139, 3) := by decide +kernel
theorem d_M_does_167 : decode b_M_does 167 = .ok (.aload_n 0, 1) := by decide +kernel
theorem d_M_does_168 : decode b_M_does 168 = .ok (.getfield 145, 3) := by decide +kernel
theorem d_M_does_171 : decode b_M_does 171 = .ok (.invokevirtual 94, 3) := by decide +kernel
theorem d_M_does_174 : decode b_M_does 174 = .ok (.goto 24, 3) := by decide +kernel
theorem d_M_does_177 : decode b_M_does 177 = .ok (.iload_n 1, 1) := by decide +kernel
theorem d_M_does_178 : decode b_M_does 178 = .ok (.bipush 109, 2) := by decide +kernel
theorem d_M_does_180 : decode b_M_does 180 = .ok (.if_icmp .ne 14, 3) := by decide +kernel
theorem d_M_does_183 : decode b_M_does 183 = .ok (.aload_n 0, 1) := by decide +kernel
theorem d_M_does_184 : decode b_M_does 184 = .ok (.aload_n 0, 1) := by decide +kernel
theorem d_M_does_185 : decode b_M_does 185 = .ok (.getfield 145, 3) := by decide +kernel
theorem d_M_does_188 : decode b_M_does 188 = .ok (.invokevirtual 97, 3) := by decide +kernel
theorem d_M_does_191 : decode b_M_does 191 = .ok (.goto 7, 3) := by decide +kernel
theorem d_M_does_194 : decode b_M_does 194 = .ok (.aload_n 0, 1) := by decide +kernel
theorem d_M_does_195 : decode b_M_does 195 = .ok (.invokevirtual 100, 3) := by decide +kernel
theorem d_M_does_198 : decode b_M_does 198 = .ok (.istore_n 3, 1) := by decide +kernel
theorem d_M_does_199 : decode b_M_does 199 = .ok (.iload_n 2, 1) := by decide +kernel
theorem d_M_does_200 : decode b_M_does 200 = .ok (.ifCond .ne 7, 3) := by decide +kernel
theorem d_M_does_203 : decode b_M_does 203 = .ok (.iconst 1, 1) := by decide +kernel
theorem d_M_does_204 : decode b_M_does 204 = .ok (.goto 4, 3) := by decide +kernel
theorem d_M_does_207 : decode b_M_does 207 = .ok (.iconst 0, 1) := by decide +kernel
theorem d_M_does_208 : decode b_M_does 208 = .ok (.ireturn, 1) := by decide +kernel
theorem d_M_go_0 : decode b_M_go 0 = .ok (.aload_n 0, 1) := by decide +kernel
theorem d_M_go_1 : decode b_M_go 1 = .ok (.iconst 0, 1) := by decide +kernel
theorem d_M_go_2 : decode b_M_go 2 = .ok (.putfield 123, 3) := by decide +kernel
theorem d_M_go_5 : decode b_M_go 5 = .ok (.aload_n 0, 1) := by decide +kernel
theorem d_M_go_6 : decode b_M_go 6 = .ok (.iconst 0, 1) := by decide +kernel
theorem d_M_go_7 : decode b_M_go 7 = .ok (.putfield 126, 3) := by decide +kernel
theorem d_M_go_10 : decode b_M_go 10 = .ok (.iconst 0, 1) := by decide +kernel
theorem d_M_go_11 : decode b_M_go 11 = .ok (.istore_n 2, 1) := by decide +kernel
theorem d_M_go_12 : decode b_M_go 12 = .ok (.iconst 1, 1) := by decide +kernel
theorem d_M_go_13 : decode b_M_go 13 = .ok (.istore_n 3, 1) := by decide +kernel
theorem d_M_go_14 : decode b_M_go 14 = .ok (.iload_n 3, 1) := by decide +kernel
theorem d_M_go_15 : decode b_M_go 15 = .ok (.ifCond .eq 101, 3) := by decide +kernel
theorem d_M_go_18 : decode b_M_go 18 = .ok (.aload_n 0, 1) := by decide +kernel
theorem d_M_go_19 : decode b_M_go 19 = .ok (.invokevirtual 151, 3) := by decide +kernel
theorem d_M_go_22 : decode b_M_go 22 = .ok (.iload_n 1, 1) := by decide +kernel
theorem d_M_go_23 : decode b_M_go 23 = .ok (.ifCond .eq 14, 3) := by decide +kernel
theorem d_M_go_26 : decode b_M_go 26 = .ok (.aload_n 0, 1) := by decide +kernel
theorem d_M_go_27 : decode b_M_go 27 = .ok (.invokevirtual 154, 3) := by decide +kernel
theorem d_M_go_30 : decode b_M_go 30 = .ok (.ifCond .eq 7, 3) := by decide +kernel
theorem d_M_go_33 : decode b_M_go 33 = .ok (.iconst 1, 1) := by decide +kernel
theorem d_M_go_34 : decode b_M_go 34 = .ok (.goto 4, 3) := by decide +kernel
theorem d_M_go_37 : decode b_M_go 37 = .ok (.iconst 0, 1) := by decide +kernel
theorem d_M_go_38 : decode b_M_go 38 = .ok (.istore 4, 2) := by decide +kernel
theorem d_M_go_40 : decode b_M_go 40 = .ok (.iload_n 2, 1) := by decide +kernel
theorem d_M_go_41 : decode b_M_go 41 = .ok (.iload 4, 2) := by decide +kernel
theorem d_M_go_43 : decode b_M_go 43 = .ok (.ifCond .eq 7, 3) := by decide +kernel
theorem d_M_go_46 : decode b_M_go 46 = .ok (.iconst 1, 1) := by decide +kernel
theorem d_M_go_47 : decode b_M_go 47 = .ok (.goto 4, 3) := by decide +kernel
theorem d_M_go_50 : decode b_M_go 50 = .ok (.iconst 0, 1) := by decide +kernel
theorem d_M_go_51 : decode b_M_go 51 = .ok (.iadd, 1) := by decide +kernel
theorem d_M_go_52 : decode b_M_go 52 = .ok (.istore_n 2, 1) := by decide +kernel
theorem d_M_go_53 : decode b_M_go 53 = .ok (.aload_n 0, 1) := by decide +kernel
theorem d_M_go_54 : decode b_M_go 54 = .ok (.getfield 126, 3) := by decide +kernel
theorem d_M_go_57 : decode b_M_go 57 = .ok (.ifCond .ne 27, 3) := by decide +kernel
theorem d_M_go_60 : decode b_M_go 60 = .ok (.iload 4, 2) := by decide +kernel
theorem d_M_go_62 : decode b_M_go 62 = .ok (.ifCond .ne 7, 3) := by decide +kernel
theorem d_M_go_65 : decode b_M_go 65 = .ok (.iload_n 1, 1) := by decide +kernel
theorem d_M_go_66 : decode b_M_go 66 = .ok (.ifCond .ne 18, 3) := by decide +kernel
theorem d_M_go_69 : decode b_M_go 69 = .ok (.aload_n 0, 1) := by decide +kernel
theorem d_M_go_70 : decode b_M_go 70 = .ok (.getfield 123, 3) := by decide +kernel
theorem d_M_go_73 : decode b_M_go 73 = .ok (.aload_n 0, 1) := by decide +kernel
theorem d_M_go_74 : decode b_M_go 74 = .ok (.getfield 118, 3) := by decide +kernel
theorem d_M_go_77 : decode b_M_go 77 = .ok (.if_icmp .ge 7, 3) := by decide +kernel
theorem d_M_go_80 : decode b_M_go 80 = .ok (.iconst 1, 1) := by decide +kernel
theorem d_M_go_81 : decode b_M_go 81 = .ok (.goto 4, 3) := by decide +kernel
theorem d_M_go_84 : decode b_M_go 84 = .ok (.iconst 0, 1) := by decide +kernel
theorem d_M_go_85 : decode b_M_go 85 = .ok (.istore_n 3, 1) := by decide +kernel
theorem d_M_go_86 : decode b_M_go 86 = .ok (.iload_n 3, 1) := by decide +kernel
theorem d_M_go_87 : decode b_M_go 87 = .ok (.ifCond .eq 26, 3) := by decide +kernel
theorem d_M_go_90 : decode b_M_go 90 = .ok (.aload_n 0, 1) := by decide +kernel
theorem d_M_go_91 : decode b_M_go 91 = .ok (.bipush 59, 2) := by decide +kernel
theorem d_M_go_93 : decode b_M_go 93 = .ok (.bipush 59, 2) := by decide +kernel
theorem d_M_go_95 : decode b_M_go 95 = .ok (.invokevirtual 130, 3) := by decide +kernel
theorem d_M_go_98 : decode b_M_go 98 = .ok (.istore 5, 2) := by decide +kernel
theorem d_M_go_100 : decode b_M_go 100 = .ok (.aload_n 0, 1) := by decide +kernel
theorem d_M_go_101 : decode b_M_go 101 = .ok (.getfield 126, 3) := by decide +kernel
theorem d_M_go_104 : decode b_M_go 104 = .ok (.ifCond .ne 7, 3) := by decide +kernel
theorem d_M_go_107 : decode b_M_go 107 = .ok (.iconst 1, 1) := by decide +kernel
theorem d_M_go_108 : decode b_M_go 108 = .ok (.goto 4, 3) := by decide +kernel
theorem d_M_go_111 : decode b_M_go 111 = .ok (.iconst 0, 1) := by decide +kernel
theorem d_M_go_112 : decode b_M_go 112 = .ok (.istore_n 3, 1) := by decide +kernel
theorem d_M_go_113 : decode b_M_go 113 = .ok (.goto (-99), 3) := by decide +kernel
theorem d_M_go_116 : decode b_M_go 116 = .ok (.iload_n 2, 1) := by decide +kernel
theorem d_M_go_117 : decode b_M_go 117 = .ok (.ireturn, 1) := by decide +kernel
theorem d_M_fault_0 : decode b_M_fault 0 = .ok (.aload_n 0, 1) := by decide +kernel
theorem d_M_fault_1 : decode b_M_fault 1 = .ok (.iconst 0, 1) := by decide +kernel
theorem d_M_fault_2 : decode b_M_fault 2 = .ok (.invokevirtual 158, 3) := by decide +kernel
theorem d_M_fault_5 : decode b_M_fault 5 = .ok (.istore_n 1, 1) := by decide +kernel
theorem d_M_fault_6 : decode b_M_fault 6 = .ok (.aload_n 0, 1) := by decide +kernel
theorem d_M_fault_7 : decode b_M_fault 7 = .ok (.getfield 126, 3) := by decide +kernel
theorem d_M_fault_10 : decode b_M_fault 10 = .ok (.ifCond .eq 10, 3) := by decide +kernel
theorem d_M_fault_13 : decode b_M_fault 13 = .ok (.aload_n 0, 1) := by decide +kernel
theorem d_M_fault_14 : decode b_M_fault 14 = .ok (.getfield 123, 3) := by decide +kernel
theorem d_M_fault_17 : decode b_M_fault 17 = .ok (.goto 5, 3) := by decide +kernel
theorem d_M_fault_20 : decode b_M_fault 20 = .ok (.bipush (-6), 2) := by decide +kernel
theorem d_M_fault_22 : decode b_M_fault 22 = .ok (.ireturn, 1) := by decide +kernel
theorem d_M_carryOut_0 : decode b_M_carryOut 0 = .ok (.aload_n 0, 1) := by decide +kernel
theorem d_M_carryOut_1 : decode b_M_carryOut 1 = .ok (.iconst 0, 1) := by decide +kernel
theorem d_M_carryOut_2 : decode b_M_carryOut 2 = .ok (.invokevirtual 158, 3) := by decide +kernel
theorem d_M_carryOut_5 : decode b_M_carryOut 5 = .ok (.istore_n 1, 1) := by decide +kernel
theorem d_M_carryOut_6 : decode b_M_carryOut 6 = .ok (.aload_n 0, 1) := by decide +kernel
theorem d_M_carryOut_7 : decode b_M_carryOut 7 = .ok (.getfield 126, 3) := by decide +kernel
theorem d_M_carryOut_10 : decode b_M_carryOut 10 = .ok (.ifCond .eq 6, 3) := by decide +kernel
theorem d_M_carryOut_13 : decode b_M_carryOut 13 = .ok (.bipush (-3), 2) := by decide +kernel
theorem d_M_carryOut_15 : decode b_M_carryOut 15 = .ok (.ireturn, 1) := by decide +kernel
theorem d_M_carryOut_16 : decode b_M_carryOut 16 = .ok (.aload_n 0, 1) := by decide +kernel
theorem d_M_carryOut_17 : decode b_M_carryOut 17 = .ok (.invokevirtual 82, 3) := by decide +kernel
theorem d_M_carryOut_20 : decode b_M_carryOut 20 = .ok (.aload_n 0, 1) := by decide +kernel
theorem d_M_carryOut_21 : decode b_M_carryOut 21 = .ok (.iconst 1, 1) := by decide +kernel
theorem d_M_carryOut_22 : decode b_M_carryOut 22 = .ok (.invokevirtual 158, 3) := by decide +kernel
theorem d_M_carryOut_25 : decode b_M_carryOut 25 = .ok (.istore_n 2, 1) := by decide +kernel
theorem d_M_carryOut_26 : decode b_M_carryOut 26 = .ok (.aload_n 0, 1) := by decide +kernel
theorem d_M_carryOut_27 : decode b_M_carryOut 27 = .ok (.iconst 0, 1) := by decide +kernel
theorem d_M_carryOut_28 : decode b_M_carryOut 28 = .ok (.putfield 118, 3) := by decide +kernel
theorem d_M_carryOut_31 : decode b_M_carryOut 31 = .ok (.iload_n 2, 1) := by decide +kernel
theorem d_M_carryOut_32 : decode b_M_carryOut 32 = .ok (.ireturn, 1) := by decide +kernel
theorem d_M_undo_0 : decode b_M_undo 0 = .ok (.aload_n 0, 1) := by decide +kernel
theorem d_M_undo_1 : decode b_M_undo 1 = .ok (.getfield 34, 3) := by decide +kernel
theorem d_M_undo_4 : decode b_M_undo 4 = .ok (.ifCond .ne 6, 3) := by decide +kernel
theorem d_M_undo_7 : decode b_M_undo 7 = .ok (.bipush (-5), 2) := by decide +kernel
theorem d_M_undo_9 : decode b_M_undo 9 = .ok (.ireturn, 1) := by decide +kernel
theorem d_M_undo_10 : decode b_M_undo 10 = .ok (.aload_n 0, 1) := by decide +kernel
theorem d_M_undo_11 : decode b_M_undo 11 = .ok (.dup, 1) := by decide +kernel
theorem d_M_undo_12 : decode b_M_undo 12 = .ok (.getfield 34, 3) := by decide +kernel
theorem d_M_undo_15 : decode b_M_undo 15 = .ok (.iconst 1, 1) := by decide +kernel
theorem d_M_undo_16 : decode b_M_undo 16 = .ok (.isub, 1) := by decide +kernel
theorem d_M_undo_17 : decode b_M_undo 17 = .ok (.putfield 34, 3) := by decide +kernel
theorem d_M_undo_20 : decode b_M_undo 20 = .ok (.iconst 0, 1) := by decide +kernel
theorem d_M_undo_21 : decode b_M_undo 21 = .ok (.istore_n 1, 1) := by decide +kernel
theorem d_M_undo_22 : decode b_M_undo 22 = .ok (.iload_n 1, 1) := by decide +kernel
theorem d_M_undo_23 : decode b_M_undo 23 = .ok (.sipush 170, 3) := by decide +kernel
theorem d_M_undo_26 : decode b_M_undo 26 = .ok (.if_icmp .ge 30, 3) := by decide +kernel
theorem d_M_undo_29 : decode b_M_undo 29 = .ok (.aload_n 0, 1) := by decide +kernel
theorem d_M_undo_30 : decode b_M_undo 30 = .ok (.getfield 7, 3) := by decide +kernel
theorem d_M_undo_33 : decode b_M_undo 33 = .ok (.iload_n 1, 1) := by decide +kernel
theorem d_M_undo_34 : decode b_M_undo 34 = .ok (.aload_n 0, 1) := by decide +kernel
theorem d_M_undo_35 : decode b_M_undo 35 = .ok (.getfield 13, 3) := by decide +kernel
theorem d_M_undo_38 : decode b_M_undo 38 = .ok (.sipush 170, 3) := by decide +kernel
theorem d_M_undo_41 : decode b_M_undo 41 = .ok (.aload_n 0, 1) := by decide +kernel
theorem d_M_undo_42 : decode b_M_undo 42 = .ok (.getfield 34, 3) := by decide +kernel
theorem d_M_undo_45 : decode b_M_undo 45 = .ok (.imul, 1) := by decide +kernel
theorem d_M_undo_46 : decode b_M_undo 46 = .ok (.iload_n 1, 1) := by decide +kernel
theorem d_M_undo_47 : decode b_M_undo 47 = .ok (.iadd, 1) := by decide +kernel
theorem d_M_undo_48 : decode b_M_undo 48 = .ok (.iaload, 1) := by decide +kernel
theorem d_M_undo_49 : decode b_M_undo 49 = .ok (.iastore, 1) := by decide +kernel
theorem d_M_undo_50 : decode b_M_undo 50 = .ok (.iinc 1 1, 3) := by decide +kernel
theorem d_M_undo_53 : decode b_M_undo 53 = .ok (.goto (-31), 3) := by decide +kernel
theorem d_M_undo_56 : decode b_M_undo 56 = .ok (.aload_n 0, 1) := by decide +kernel
theorem d_M_undo_57 : decode b_M_undo 57 = .ok (.getfield 34, 3) := by decide +kernel
theorem d_M_undo_60 : decode b_M_undo 60 = .ok (.ireturn, 1) := by decide +kernel
theorem d_M_save_0 : decode b_M_save 0 = .ok (.iload_n 1, 1) := by decide +kernel
theorem d_M_save_1 : decode b_M_save 1 = .ok (.iconst 0, 1) := by decide +kernel
theorem d_M_save_2 : decode b_M_save 2 = .ok (.iconst 1, 1) := by decide +kernel
theorem d_M_save_3 : decode b_M_save 3 = .ok (.invokestatic 26, 3) := by decide +kernel
theorem d_M_save_6 : decode b_M_save 6 = .ok (.ifCond .ne 6, 3) := by decide +kernel
theorem d_M_save_9 : decode b_M_save 9 = .ok (.bipush (-2), 2) := by decide +kernel
theorem d_M_save_11 : decode b_M_save 11 = .ok (.ireturn, 1) := by decide +kernel
theorem d_M_save_12 : decode b_M_save 12 = .ok (.iconst 0, 1) := by decide +kernel
theorem d_M_save_13 : decode b_M_save 13 = .ok (.istore_n 2, 1) := by decide +kernel
theorem d_M_save_14 : decode b_M_save 14 = .ok (.iload_n 2, 1) := by decide +kernel
theorem d_M_save_15 : decode b_M_save 15 = .ok (.sipush 170, 3) := by decide +kernel
theorem d_M_save_18 : decode b_M_save 18 = .ok (.if_icmp .ge 27, 3) := by decide +kernel
theorem d_M_save_21 : decode b_M_save 21 = .ok (.aload_n 0, 1) := by decide +kernel
theorem d_M_save_22 : decode b_M_save 22 = .ok (.getfield 16, 3) := by decide +kernel
theorem d_M_save_25 : decode b_M_save 25 = .ok (.sipush 170, 3) := by decide +kernel
theorem d_M_save_28 : decode b_M_save 28 = .ok (.iload_n 1, 1) := by decide +kernel
theorem d_M_save_29 : decode b_M_save 29 = .ok (.imul, 1) := by decide +kernel
theorem d_M_save_30 : decode b_M_save 30 = .ok (.iload_n 2, 1) := by decide +kernel
theorem d_M_save_31 : decode b_M_save 31 = .ok (.iadd, 1) := by decide +kernel
theorem d_M_save_32 : decode b_M_save 32 = .ok (.aload_n 0, 1) := by decide +kernel
theorem d_M_save_33 : decode b_M_save 33 = .ok (.getfield 7, 3) := by decide +kernel
theorem d_M_save_36 : decode b_M_save 36 = .ok (.iload_n 2, 1) := by decide +kernel
theorem d_M_save_37 : decode b_M_save 37 = .ok (.iaload, 1) := by decide +kernel
theorem d_M_save_38 : decode b_M_save 38 = .ok (.iastore, 1) := by decide +kernel
theorem d_M_save_39 : decode b_M_save 39 = .ok (.iinc 2 1, 3) := by decide +kernel
theorem d_M_save_42 : decode b_M_save 42 = .ok (.goto (-28), 3) := by decide +kernel
theorem d_M_save_45 : decode b_M_save 45 = .ok (.aload_n 0, 1) := by decide +kernel
theorem d_M_save_46 : decode b_M_save 46 = .ok (.getfield 19, 3) := by decide +kernel
theorem d_M_save_49 : decode b_M_save 49 = .ok (.iload_n 1, 1) := by decide +kernel
theorem d_M_save_50 : decode b_M_save 50 = .ok (.iconst 1, 1) := by decide +kernel
theorem d_M_save_51 : decode b_M_save 51 = .ok (.bastore, 1) := by decide +kernel
theorem d_M_save_52 : decode b_M_save 52 = .ok (.aload_n 0, 1) := by decide +kernel
theorem d_M_save_53 : decode b_M_save 53 = .ok (.getfield 7, 3) := by decide +kernel
theorem d_M_save_56 : decode b_M_save 56 = .ok (.bipush 8, 2) := by decide +kernel
theorem d_M_save_58 : decode b_M_save 58 = .ok (.iaload, 1) := by decide +kernel
theorem d_M_save_59 : decode b_M_save 59 = .ok (.aload_n 0, 1) := by decide +kernel
theorem d_M_save_60 : decode b_M_save 60 = .ok (.getfield 7, 3) := by decide +kernel
theorem d_M_save_63 : decode b_M_save 63 = .ok (.bipush 9, 2) := by decide +kernel
theorem d_M_save_65 : decode b_M_save 65 = .ok (.iaload, 1) := by decide +kernel
theorem d_M_save_66 : decode b_M_save 66 = .ok (.iadd, 1) := by decide +kernel
theorem d_M_save_67 : decode b_M_save 67 = .ok (.ireturn, 1) := by decide +kernel
theorem d_M_restore_0 : decode b_M_restore 0 = .ok (.iload_n 1, 1) := by decide +kernel
theorem d_M_restore_1 : decode b_M_restore 1 = .ok (.iconst 0, 1) := by decide +kernel
theorem d_M_restore_2 : decode b_M_restore 2 = .ok (.iconst 1, 1) := by decide +kernel
theorem d_M_restore_3 : decode b_M_restore 3 = .ok (.invokestatic 26, 3) := by decide +kernel
theorem d_M_restore_6 : decode b_M_restore 6 = .ok (.ifCond .ne 6, 3) := by decide +kernel
theorem d_M_restore_9 : decode b_M_restore 9 = .ok (.bipush (-2), 2) := by decide +kernel
theorem d_M_restore_11 : decode b_M_restore 11 = .ok (.ireturn, 1) := by decide +kernel
theorem d_M_restore_12 : decode b_M_restore 12 = .ok (.aload_n 0, 1) := by decide +kernel
theorem d_M_restore_13 : decode b_M_restore 13 = .ok (.getfield 19, 3) := by decide +kernel
theorem d_M_restore_16 : decode b_M_restore 16 = .ok (.iload_n 1, 1) := by decide +kernel
theorem d_M_restore_17 : decode b_M_restore 17 = .ok (.baload, 1) := by decide +kernel
theorem d_M_restore_18 : decode b_M_restore 18 = .ok (.ifCond .ne 6, 3) := by decide +kernel
theorem d_M_restore_21 : decode b_M_restore 21 = .ok (.bipush (-5), 2) := by decide +kernel
theorem d_M_restore_23 : decode b_M_restore 23 = .ok (.ireturn, 1) := by decide +kernel
theorem d_M_restore_24 : decode b_M_restore 24 = .ok (.aload_n 0, 1) := by decide +kernel
theorem d_M_restore_25 : decode b_M_restore 25 = .ok (.invokevirtual 82, 3) := by decide +kernel
theorem d_M_restore_28 : decode b_M_restore 28 = .ok (.iconst 0, 1) := by decide +kernel
theorem d_M_restore_29 : decode b_M_restore 29 = .ok (.istore_n 2, 1) := by decide +kernel
theorem d_M_restore_30 : decode b_M_restore 30 = .ok (.iload_n 2, 1) := by decide +kernel
theorem d_M_restore_31 : decode b_M_restore 31 = .ok (.sipush 170, 3) := by decide +kernel
theorem d_M_restore_34 : decode b_M_restore 34 = .ok (.if_icmp .ge 27, 3) := by decide +kernel
theorem d_M_restore_37 : decode b_M_restore 37 = .ok (.aload_n 0, 1) := by decide +kernel
theorem d_M_restore_38 : decode b_M_restore 38 = .ok (.getfield 7, 3) := by decide +kernel
theorem d_M_restore_41 : decode b_M_restore 41 = .ok (.iload_n 2, 1) := by decide +kernel
theorem d_M_restore_42 : decode b_M_restore 42 = .ok (.aload_n 0, 1) := by decide +kernel
theorem d_M_restore_43 : decode b_M_restore 43 = .ok (.getfield 16, 3) := by decide +kernel
theorem d_M_restore_46 : decode b_M_restore 46 = .ok (.sipush 170, 3) := by decide +kernel
theorem d_M_restore_49 : decode b_M_restore 49 = .ok (.iload_n 1, 1) := by decide +kernel
theorem d_M_restore_50 : decode b_M_restore 50 = .ok (.imul, 1) := by decide +kernel
theorem d_M_restore_51 : decode b_M_restore 51 = .ok (.iload_n 2, 1) := by decide +kernel
theorem d_M_restore_52 : decode b_M_restore 52 = .ok (.iadd, 1) := by decide +kernel
theorem d_M_restore_53 : decode b_M_restore 53 = .ok (.iaload, 1) := by decide +kernel
theorem d_M_restore_54 : decode b_M_restore 54 = .ok (.iastore, 1) := by decide +kernel
theorem d_M_restore_55 : decode b_M_restore 55 = .ok (.iinc 2 1, 3) := by decide +kernel
theorem d_M_restore_58 : decode b_M_restore 58 = .ok (.goto (-28), 3) := by decide +kernel
theorem d_M_restore_61 : decode b_M_restore 61 = .ok (.aload_n 0, 1) := by decide +kernel
theorem d_M_restore_62 : decode b_M_restore 62 = .ok (.getfield 7, 3) := by decide +kernel
theorem d_M_restore_65 : decode b_M_restore 65 = .ok (.bipush 8, 2) := by decide +kernel
theorem d_M_restore_67 : decode b_M_restore 67 = .ok (.iaload, 1) := by decide +kernel
theorem d_M_restore_68 : decode b_M_restore 68 = .ok (.aload_n 0, 1) := by decide +kernel
theorem d_M_restore_69 : decode b_M_restore 69 = .ok (.getfield 7, 3) := by decide +kernel
theorem d_M_restore_72 : decode b_M_restore 72 = .ok (.bipush 9, 2) := by decide +kernel
theorem d_M_restore_74 : decode b_M_restore 74 = .ok (.iaload, 1) := by decide +kernel
theorem d_M_restore_75 : decode b_M_restore 75 = .ok (.iadd, 1) := by decide +kernel
theorem d_M_restore_76 : decode b_M_restore 76 = .ok (.ireturn, 1) := by decide +kernel
end
section
theorem d_L_law_0 : decode code 0 = .ok (.new 7, 3) := by decide +kernel
theorem d_L_law_3 : decode code 3 = .ok (.dup, 1) := by decide +kernel
theorem d_L_law_4 : decode code 4 = .ok (.invokespecial 9, 3) := by decide +kernel
theorem d_L_law_7 : decode code 7 = .ok (.astore_n 1, 1) := by decide +kernel
theorem d_L_law_8 : decode code 8 = .ok (.new 10, 3) := by decide +kernel
theorem d_L_law_11 : decode code 11 = .ok (.dup, 1) := by decide +kernel
theorem d_L_law_12 : decode code 12 = .ok (.invokespecial 12, 3) := by decide +kernel
theorem d_L_law_15 : decode code 15 = .ok (.astore_n 2, 1) := by decide +kernel
theorem d_L_law_16 : decode code 16 = .ok (.iconst 0, 1) := by decide +kernel
theorem d_L_law_17 : decode code 17 = .ok (.istore_n 3, 1) := by decide +kernel
theorem d_L_law_18 : decode code 18 = .ok (.iload_n 3, 1) := by decide +kernel
theorem d_L_law_19 : decode code 19 = .ok (.aload_n 0, 1) := by decide +kernel
theorem d_L_law_20 : decode code 20 = .ok (.arraylength, 1) := by decide +kernel
theorem d_L_law_21 : decode code 21 = .ok (.iconst 4, 1) := by decide +kernel
theorem d_L_law_22 : decode code 22 = .ok (.isub, 1) := by decide +kernel
theorem d_L_law_23 : decode code 23 = .ok (.if_icmp .gt 705, 3) := by decide +kernel
theorem d_L_law_26 : decode code 26 = .ok (.aload_n 0, 1) := by decide +kernel
theorem d_L_law_27 : decode code 27 = .ok (.iload_n 3, 1) := by decide +kernel
theorem d_L_law_28 : decode code 28 = .ok (.iaload, 1) := by decide +kernel
theorem d_L_law_29 : decode code 29 = .ok (.bipush 31, 2) := by decide +kernel
theorem d_L_law_31 : decode code 31 = .ok (.iand, 1) := by decide +kernel
theorem d_L_law_32 : decode code 32 = .ok (.tableswitch 690 0 21 #[104, 127, 160, 203, 236, 259, 272, 315, 348, 381, 424, 447, 470, 493, 516, 539, 592, 605, 618, 631, 644, 667], 104) := by decide +kernel
theorem d_L_law_136 : decode code 136 = .ok (.aload_n 1, 1) := by decide +kernel
theorem d_L_law_137 : decode code 137 = .ok (.aload_n 0, 1) := by decide +kernel
theorem d_L_law_138 : decode code 138 = .ok (.iload_n 3, 1) := by decide +kernel
theorem d_L_law_139 : decode code 139 = .ok (.iconst 1, 1) := by decide +kernel
theorem d_L_law_140 : decode code 140 = .ok (.iadd, 1) := by decide +kernel
theorem d_L_law_141 : decode code 141 = .ok (.iaload, 1) := by decide +kernel
theorem d_L_law_142 : decode code 142 = .ok (.invokevirtual 13, 3) := by decide +kernel
theorem d_L_law_145 : decode code 145 = .ok (.aload_n 2, 1) := by decide +kernel
theorem d_L_law_146 : decode code 146 = .ok (.aload_n 0, 1) := by decide +kernel
theorem d_L_law_147 : decode code 147 = .ok (.iload_n 3, 1) := by decide +kernel
theorem d_L_law_148 : decode code 148 = .ok (.iconst 1, 1) := by decide +kernel
theorem d_L_law_149 : decode code 149 = .ok (.iadd, 1) := by decide +kernel
theorem d_L_law_150 : decode code 150 = .ok (.iaload, 1) := by decide +kernel
theorem d_L_law_151 : decode code 151 = .ok (.invokevirtual 17, 3) := by decide +kernel
theorem d_L_law_154 : decode code 154 = .ok (.if_icmp .eq 568, 3) := by decide +kernel
theorem d_L_law_157 : decode code 157 = .ok (.iconst 0, 1) := by decide +kernel
theorem d_L_law_158 : decode code 158 = .ok (.ireturn, 1) := by decide +kernel
theorem d_L_law_159 : decode code 159 = .ok (.aload_n 1, 1) := by decide +kernel
theorem d_L_law_160 : decode code 160 = .ok (.aload_n 0, 1) := by decide +kernel
theorem d_L_law_161 : decode code 161 = .ok (.iload_n 3, 1) := by decide +kernel
theorem d_L_law_162 : decode code 162 = .ok (.iconst 1, 1) := by decide +kernel
theorem d_L_law_163 : decode code 163 = .ok (.iadd, 1) := by decide +kernel
theorem d_L_law_164 : decode code 164 = .ok (.iaload, 1) := by decide +kernel
theorem d_L_law_165 : decode code 165 = .ok (.aload_n 0, 1) := by decide +kernel
theorem d_L_law_166 : decode code 166 = .ok (.iload_n 3, 1) := by decide +kernel
theorem d_L_law_167 : decode code 167 = .ok (.iconst 2, 1) := by decide +kernel
theorem d_L_law_168 : decode code 168 = .ok (.iadd, 1) := by decide +kernel
theorem d_L_law_169 : decode code 169 = .ok (.iaload, 1) := by decide +kernel
theorem d_L_law_170 : decode code 170 = .ok (.invokevirtual 18, 3) := by decide +kernel
theorem d_L_law_173 : decode code 173 = .ok (.aload_n 2, 1) := by decide +kernel
theorem d_L_law_174 : decode code 174 = .ok (.aload_n 0, 1) := by decide +kernel
theorem d_L_law_175 : decode code 175 = .ok (.iload_n 3, 1) := by decide +kernel
theorem d_L_law_176 : decode code 176 = .ok (.iconst 1, 1) := by decide +kernel
theorem d_L_law_177 : decode code 177 = .ok (.iadd, 1) := by decide +kernel
theorem d_L_law_178 : decode code 178 = .ok (.iaload, 1) := by decide +kernel
theorem d_L_law_179 : decode code 179 = .ok (.aload_n 0, 1) := by decide +kernel
theorem d_L_law_180 : decode code 180 = .ok (.iload_n 3, 1) := by decide +kernel
theorem d_L_law_181 : decode code 181 = .ok (.iconst 2, 1) := by decide +kernel
theorem d_L_law_182 : decode code 182 = .ok (.iadd, 1) := by decide +kernel
theorem d_L_law_183 : decode code 183 = .ok (.iaload, 1) := by decide +kernel
theorem d_L_law_184 : decode code 184 = .ok (.invokevirtual 22, 3) := by decide +kernel
theorem d_L_law_187 : decode code 187 = .ok (.if_icmp .eq 535, 3) := by decide +kernel
theorem d_L_law_190 : decode code 190 = .ok (.iconst 0, 1) := by decide +kernel
theorem d_L_law_191 : decode code 191 = .ok (.ireturn, 1) := by decide +kernel
theorem d_L_law_192 : decode code 192 = .ok (.aload_n 1, 1) := by decide +kernel
theorem d_L_law_193 : decode code 193 = .ok (.aload_n 0, 1) := by decide +kernel
theorem d_L_law_194 : decode code 194 = .ok (.iload_n 3, 1) := by decide +kernel
theorem d_L_law_195 : decode code 195 = .ok (.iconst 1, 1) := by decide +kernel
theorem d_L_law_196 : decode code 196 = .ok (.iadd, 1) := by decide +kernel
theorem d_L_law_197 : decode code 197 = .ok (.iaload, 1) := by decide +kernel
theorem d_L_law_198 : decode code 198 = .ok (.aload_n 0, 1) := by decide +kernel
theorem d_L_law_199 : decode code 199 = .ok (.iload_n 3, 1) := by decide +kernel
theorem d_L_law_200 : decode code 200 = .ok (.iconst 2, 1) := by decide +kernel
theorem d_L_law_201 : decode code 201 = .ok (.iadd, 1) := by decide +kernel
theorem d_L_law_202 : decode code 202 = .ok (.iaload, 1) := by decide +kernel
theorem d_L_law_203 : decode code 203 = .ok (.aload_n 0, 1) := by decide +kernel
theorem d_L_law_204 : decode code 204 = .ok (.iload_n 3, 1) := by decide +kernel
theorem d_L_law_205 : decode code 205 = .ok (.iconst 3, 1) := by decide +kernel
theorem d_L_law_206 : decode code 206 = .ok (.iadd, 1) := by decide +kernel
theorem d_L_law_207 : decode code 207 = .ok (.iaload, 1) := by decide +kernel
theorem d_L_law_208 : decode code 208 = .ok (.invokevirtual 23, 3) := by decide +kernel
theorem d_L_law_211 : decode code 211 = .ok (.aload_n 2, 1) := by decide +kernel
theorem d_L_law_212 : decode code 212 = .ok (.aload_n 0, 1) := by decide +kernel
theorem d_L_law_213 : decode code 213 = .ok (.iload_n 3, 1) := by decide +kernel
theorem d_L_law_214 : decode code 214 = .ok (.iconst 1, 1) := by decide +kernel
theorem d_L_law_215 : decode code 215 = .ok (.iadd, 1) := by decide +kernel
theorem d_L_law_216 : decode code 216 = .ok (.iaload, 1) := by decide +kernel
theorem d_L_law_217 : decode code 217 = .ok (.aload_n 0, 1) := by decide +kernel
theorem d_L_law_218 : decode code 218 = .ok (.iload_n 3, 1) := by decide +kernel
theorem d_L_law_219 : decode code 219 = .ok (.iconst 2, 1) := by decide +kernel
theorem d_L_law_220 : decode code 220 = .ok (.iadd, 1) := by decide +kernel
theorem d_L_law_221 : decode code 221 = .ok (.iaload, 1) := by decide +kernel
theorem d_L_law_222 : decode code 222 = .ok (.aload_n 0, 1) := by decide +kernel
theorem d_L_law_223 : decode code 223 = .ok (.iload_n 3, 1) := by decide +kernel
theorem d_L_law_224 : decode code 224 = .ok (.iconst 3, 1) := by decide +kernel
theorem d_L_law_225 : decode code 225 = .ok (.iadd, 1) := by decide +kernel
theorem d_L_law_226 : decode code 226 = .ok (.iaload, 1) := by decide +kernel
theorem d_L_law_227 : decode code 227 = .ok (.invokevirtual 27, 3) := by decide +kernel
theorem d_L_law_230 : decode code 230 = .ok (.if_icmp .eq 492, 3) := by decide +kernel
theorem d_L_law_233 : decode code 233 = .ok (.iconst 0, 1) := by decide +kernel
theorem d_L_law_234 : decode code 234 = .ok (.ireturn, 1) := by decide +kernel
theorem d_L_law_235 : decode code 235 = .ok (.aload_n 1, 1) := by decide +kernel
theorem d_L_law_236 : decode code 236 = .ok (.aload_n 0, 1) := by decide +kernel
theorem d_L_law_237 : decode code 237 = .ok (.iload_n 3, 1) := by decide +kernel
theorem d_L_law_238 : decode code 238 = .ok (.iconst 1, 1) := by decide +kernel
theorem d_L_law_239 : decode code 239 = .ok (.iadd, 1) := by decide +kernel
theorem d_L_law_240 : decode code 240 = .ok (.iaload, 1) := by decide +kernel
theorem d_L_law_241 : decode code 241 = .ok (.aload_n 0, 1) := by decide +kernel
theorem d_L_law_242 : decode code 242 = .ok (.iload_n 3, 1) := by decide +kernel
theorem d_L_law_243 : decode code 243 = .ok (.iconst 2, 1) := by decide +kernel
theorem d_L_law_244 : decode code 244 = .ok (.iadd, 1) := by decide +kernel
theorem d_L_law_245 : decode code 245 = .ok (.iaload, 1) := by decide +kernel
theorem d_L_law_246 : decode code 246 = .ok (.invokevirtual 28, 3) := by decide +kernel
theorem d_L_law_249 : decode code 249 = .ok (.aload_n 2, 1) := by decide +kernel
theorem d_L_law_250 : decode code 250 = .ok (.aload_n 0, 1) := by decide +kernel
theorem d_L_law_251 : decode code 251 = .ok (.iload_n 3, 1) := by decide +kernel
theorem d_L_law_252 : decode code 252 = .ok (.iconst 1, 1) := by decide +kernel
theorem d_L_law_253 : decode code 253 = .ok (.iadd, 1) := by decide +kernel
theorem d_L_law_254 : decode code 254 = .ok (.iaload, 1) := by decide +kernel
theorem d_L_law_255 : decode code 255 = .ok (.aload_n 0, 1) := by decide +kernel
theorem d_L_law_256 : decode code 256 = .ok (.iload_n 3, 1) := by decide +kernel
theorem d_L_law_257 : decode code 257 = .ok (.iconst 2, 1) := by decide +kernel
theorem d_L_law_258 : decode code 258 = .ok (.iadd, 1) := by decide +kernel
theorem d_L_law_259 : decode code 259 = .ok (.iaload, 1) := by decide +kernel
theorem d_L_law_260 : decode code 260 = .ok (.invokevirtual 31, 3) := by decide +kernel
theorem d_L_law_263 : decode code 263 = .ok (.if_icmp .eq 459, 3) := by decide +kernel
theorem d_L_law_266 : decode code 266 = .ok (.iconst 0, 1) := by decide +kernel
theorem d_L_law_267 : decode code 267 = .ok (.ireturn, 1) := by decide +kernel
theorem d_L_law_268 : decode code 268 = .ok (.aload_n 1, 1) := by decide +kernel
theorem d_L_law_269 : decode code 269 = .ok (.aload_n 0, 1) := by decide +kernel
theorem d_L_law_270 : decode code 270 = .ok (.iload_n 3, 1) := by decide +kernel
theorem d_L_law_271 : decode code 271 = .ok (.iconst 1, 1) := by decide +kernel
theorem d_L_law_272 : decode code 272 = .ok (.iadd, 1) := by decide +kernel
theorem d_L_law_273 : decode code 273 = .ok (.iaload, 1) := by decide +kernel
theorem d_L_law_274 : decode code 274 = .ok (.invokevirtual 32, 3) := by decide +kernel
theorem d_L_law_277 : decode code 277 = .ok (.aload_n 2, 1) := by decide +kernel
theorem d_L_law_278 : decode code 278 = .ok (.aload_n 0, 1) := by decide +kernel
theorem d_L_law_279 : decode code 279 = .ok (.iload_n 3, 1) := by decide +kernel
theorem d_L_law_280 : decode code 280 = .ok (.iconst 1, 1) := by decide +kernel
theorem d_L_law_281 : decode code 281 = .ok (.iadd, 1) := by decide +kernel
theorem d_L_law_282 : decode code 282 = .ok (.iaload, 1) := by decide +kernel
theorem d_L_law_283 : decode code 283 = .ok (.invokevirtual 35, 3) := by decide +kernel
theorem d_L_law_286 : decode code 286 = .ok (.if_icmp .eq 436, 3) := by decide +kernel
theorem d_L_law_289 : decode code 289 = .ok (.iconst 0, 1) := by decide +kernel
theorem d_L_law_290 : decode code 290 = .ok (.ireturn, 1) := by decide +kernel
theorem d_L_law_291 : decode code 291 = .ok (.aload_n 1, 1) := by decide +kernel
theorem d_L_law_292 : decode code 292 = .ok (.invokevirtual 36, 3) := by decide +kernel
theorem d_L_law_295 : decode code 295 = .ok (.aload_n 2, 1) := by decide +kernel
theorem d_L_law_296 : decode code 296 = .ok (.invokevirtual 40, 3) := by decide +kernel
theorem d_L_law_299 : decode code 299 = .ok (.if_icmp .eq 423, 3) := by decide +kernel
theorem d_L_law_302 : decode code 302 = .ok (.iconst 0, 1) := by decide +kernel
theorem d_L_law_303 : decode code 303 = .ok (.ireturn, 1) := by decide +kernel
theorem d_L_law_304 : decode code 304 = .ok (.aload_n 1, 1) := by decide +kernel
theorem d_L_law_305 : decode code 305 = .ok (.aload_n 0, 1) := by decide +kernel
theorem d_L_law_306 : decode code 306 = .ok (.iload_n 3, 1) := by decide +kernel
theorem d_L_law_307 : decode code 307 = .ok (.iconst 1, 1) := by decide +kernel
theorem d_L_law_308 : decode code 308 = .ok (.iadd, 1) := by decide +kernel
theorem d_L_law_309 : decode code 309 = .ok (.iaload, 1) := by decide +kernel
theorem d_L_law_310 : decode code 310 = .ok (.aload_n 0, 1) := by decide +kernel
theorem d_L_law_311 : decode code 311 = .ok (.iload_n 3, 1) := by decide +kernel
theorem d_L_law_312 : decode code 312 = .ok (.iconst 2, 1) := by decide +kernel
theorem d_L_law_313 : decode code 313 = .ok (.iadd, 1) := by decide +kernel
theorem d_L_law_314 : decode code 314 = .ok (.iaload, 1) := by decide +kernel
theorem d_L_law_315 : decode code 315 = .ok (.aload_n 0, 1) := by decide +kernel
theorem d_L_law_316 : decode code 316 = .ok (.iload_n 3, 1) := by decide +kernel
theorem d_L_law_317 : decode code 317 = .ok (.iconst 3, 1) := by decide +kernel
theorem d_L_law_318 : decode code 318 = .ok (.iadd, 1) := by decide +kernel
theorem d_L_law_319 : decode code 319 = .ok (.iaload, 1) := by decide +kernel
theorem d_L_law_320 : decode code 320 = .ok (.invokevirtual 41, 3) := by decide +kernel
theorem d_L_law_323 : decode code 323 = .ok (.aload_n 2, 1) := by decide +kernel
theorem d_L_law_324 : decode code 324 = .ok (.aload_n 0, 1) := by decide +kernel
theorem d_L_law_325 : decode code 325 = .ok (.iload_n 3, 1) := by decide +kernel
theorem d_L_law_326 : decode code 326 = .ok (.iconst 1, 1) := by decide +kernel
theorem d_L_law_327 : decode code 327 = .ok (.iadd, 1) := by decide +kernel
theorem d_L_law_328 : decode code 328 = .ok (.iaload, 1) := by decide +kernel
theorem d_L_law_329 : decode code 329 = .ok (.aload_n 0, 1) := by decide +kernel
theorem d_L_law_330 : decode code 330 = .ok (.iload_n 3, 1) := by decide +kernel
theorem d_L_law_331 : decode code 331 = .ok (.iconst 2, 1) := by decide +kernel
theorem d_L_law_332 : decode code 332 = .ok (.iadd, 1) := by decide +kernel
theorem d_L_law_333 : decode code 333 = .ok (.iaload, 1) := by decide +kernel
theorem d_L_law_334 : decode code 334 = .ok (.aload_n 0, 1) := by decide +kernel
theorem d_L_law_335 : decode code 335 = .ok (.iload_n 3, 1) := by decide +kernel
theorem d_L_law_336 : decode code 336 = .ok (.iconst 3, 1) := by decide +kernel
theorem d_L_law_337 : decode code 337 = .ok (.iadd, 1) := by decide +kernel
theorem d_L_law_338 : decode code 338 = .ok (.iaload, 1) := by decide +kernel
theorem d_L_law_339 : decode code 339 = .ok (.invokevirtual 44, 3) := by decide +kernel
theorem d_L_law_342 : decode code 342 = .ok (.if_icmp .eq 380, 3) := by decide +kernel
theorem d_L_law_345 : decode code 345 = .ok (.iconst 0, 1) := by decide +kernel
theorem d_L_law_346 : decode code 346 = .ok (.ireturn, 1) := by decide +kernel
theorem d_L_law_347 : decode code 347 = .ok (.aload_n 1, 1) := by decide +kernel
theorem d_L_law_348 : decode code 348 = .ok (.aload_n 0, 1) := by decide +kernel
theorem d_L_law_349 : decode code 349 = .ok (.iload_n 3, 1) := by decide +kernel
theorem d_L_law_350 : decode code 350 = .ok (.iconst 1, 1) := by decide +kernel
theorem d_L_law_351 : decode code 351 = .ok (.iadd, 1) := by decide +kernel
theorem d_L_law_352 : decode code 352 = .ok (.iaload, 1) := by decide +kernel
theorem d_L_law_353 : decode code 353 = .ok (.aload_n 0, 1) := by decide +kernel
theorem d_L_law_354 : decode code 354 = .ok (.iload_n 3, 1) := by decide +kernel
theorem d_L_law_355 : decode code 355 = .ok (.iconst 2, 1) := by decide +kernel
theorem d_L_law_356 : decode code 356 = .ok (.iadd, 1) := by decide +kernel
theorem d_L_law_357 : decode code 357 = .ok (.iaload, 1) := by decide +kernel
theorem d_L_law_358 : decode code 358 = .ok (.invokevirtual 45, 3) := by decide +kernel
theorem d_L_law_361 : decode code 361 = .ok (.aload_n 2, 1) := by decide +kernel
theorem d_L_law_362 : decode code 362 = .ok (.aload_n 0, 1) := by decide +kernel
theorem d_L_law_363 : decode code 363 = .ok (.iload_n 3, 1) := by decide +kernel
theorem d_L_law_364 : decode code 364 = .ok (.iconst 1, 1) := by decide +kernel
theorem d_L_law_365 : decode code 365 = .ok (.iadd, 1) := by decide +kernel
theorem d_L_law_366 : decode code 366 = .ok (.iaload, 1) := by decide +kernel
theorem d_L_law_367 : decode code 367 = .ok (.aload_n 0, 1) := by decide +kernel
theorem d_L_law_368 : decode code 368 = .ok (.iload_n 3, 1) := by decide +kernel
theorem d_L_law_369 : decode code 369 = .ok (.iconst 2, 1) := by decide +kernel
theorem d_L_law_370 : decode code 370 = .ok (.iadd, 1) := by decide +kernel
theorem d_L_law_371 : decode code 371 = .ok (.iaload, 1) := by decide +kernel
theorem d_L_law_372 : decode code 372 = .ok (.invokevirtual 48, 3) := by decide +kernel
theorem d_L_law_375 : decode code 375 = .ok (.if_icmp .eq 347, 3) := by decide +kernel
theorem d_L_law_378 : decode code 378 = .ok (.iconst 0, 1) := by decide +kernel
theorem d_L_law_379 : decode code 379 = .ok (.ireturn, 1) := by decide +kernel
theorem d_L_law_380 : decode code 380 = .ok (.aload_n 1, 1) := by decide +kernel
theorem d_L_law_381 : decode code 381 = .ok (.aload_n 0, 1) := by decide +kernel
theorem d_L_law_382 : decode code 382 = .ok (.iload_n 3, 1) := by decide +kernel
theorem d_L_law_383 : decode code 383 = .ok (.iconst 1, 1) := by decide +kernel
theorem d_L_law_384 : decode code 384 = .ok (.iadd, 1) := by decide +kernel
theorem d_L_law_385 : decode code 385 = .ok (.iaload, 1) := by decide +kernel
theorem d_L_law_386 : decode code 386 = .ok (.aload_n 0, 1) := by decide +kernel
theorem d_L_law_387 : decode code 387 = .ok (.iload_n 3, 1) := by decide +kernel
theorem d_L_law_388 : decode code 388 = .ok (.iconst 2, 1) := by decide +kernel
theorem d_L_law_389 : decode code 389 = .ok (.iadd, 1) := by decide +kernel
theorem d_L_law_390 : decode code 390 = .ok (.iaload, 1) := by decide +kernel
theorem d_L_law_391 : decode code 391 = .ok (.invokevirtual 49, 3) := by decide +kernel
theorem d_L_law_394 : decode code 394 = .ok (.aload_n 2, 1) := by decide +kernel
theorem d_L_law_395 : decode code 395 = .ok (.aload_n 0, 1) := by decide +kernel
theorem d_L_law_396 : decode code 396 = .ok (.iload_n 3, 1) := by decide +kernel
theorem d_L_law_397 : decode code 397 = .ok (.iconst 1, 1) := by decide +kernel
theorem d_L_law_398 : decode code 398 = .ok (.iadd, 1) := by decide +kernel
theorem d_L_law_399 : decode code 399 = .ok (.iaload, 1) := by decide +kernel
theorem d_L_law_400 : decode code 400 = .ok (.aload_n 0, 1) := by decide +kernel
theorem d_L_law_401 : decode code 401 = .ok (.iload_n 3, 1) := by decide +kernel
theorem d_L_law_402 : decode code 402 = .ok (.iconst 2, 1) := by decide +kernel
theorem d_L_law_403 : decode code 403 = .ok (.iadd, 1) := by decide +kernel
theorem d_L_law_404 : decode code 404 = .ok (.iaload, 1) := by decide +kernel
theorem d_L_law_405 : decode code 405 = .ok (.invokevirtual 52, 3) := by decide +kernel
theorem d_L_law_408 : decode code 408 = .ok (.if_icmp .eq 314, 3) := by decide +kernel
theorem d_L_law_411 : decode code 411 = .ok (.iconst 0, 1) := by decide +kernel
theorem d_L_law_412 : decode code 412 = .ok (.ireturn, 1) := by decide +kernel
theorem d_L_law_413 : decode code 413 = .ok (.aload_n 1, 1) := by decide +kernel
theorem d_L_law_414 : decode code 414 = .ok (.aload_n 0, 1) := by decide +kernel
theorem d_L_law_415 : decode code 415 = .ok (.iload_n 3, 1) := by decide +kernel
theorem d_L_law_416 : decode code 416 = .ok (.iconst 1, 1) := by decide +kernel
theorem d_L_law_417 : decode code 417 = .ok (.iadd, 1) := by decide +kernel
theorem d_L_law_418 : decode code 418 = .ok (.iaload, 1) := by decide +kernel
theorem d_L_law_419 : decode code 419 = .ok (.aload_n 0, 1) := by decide +kernel
theorem d_L_law_420 : decode code 420 = .ok (.iload_n 3, 1) := by decide +kernel
theorem d_L_law_421 : decode code 421 = .ok (.iconst 2, 1) := by decide +kernel
theorem d_L_law_422 : decode code 422 = .ok (.iadd, 1) := by decide +kernel
theorem d_L_law_423 : decode code 423 = .ok (.iaload, 1) := by decide +kernel
theorem d_L_law_424 : decode code 424 = .ok (.aload_n 0, 1) := by decide +kernel
theorem d_L_law_425 : decode code 425 = .ok (.iload_n 3, 1) := by decide +kernel
theorem d_L_law_426 : decode code 426 = .ok (.iconst 3, 1) := by decide +kernel
theorem d_L_law_427 : decode code 427 = .ok (.iadd, 1) := by decide +kernel
theorem d_L_law_428 : decode code 428 = .ok (.iaload, 1) := by decide +kernel
theorem d_L_law_429 : decode code 429 = .ok (.invokevirtual 53, 3) := by decide +kernel
theorem d_L_law_432 : decode code 432 = .ok (.aload_n 2, 1) := by decide +kernel
theorem d_L_law_433 : decode code 433 = .ok (.aload_n 0, 1) := by decide +kernel
theorem d_L_law_434 : decode code 434 = .ok (.iload_n 3, 1) := by decide +kernel
theorem d_L_law_435 : decode code 435 = .ok (.iconst 1, 1) := by decide +kernel
theorem d_L_law_436 : decode code 436 = .ok (.iadd, 1) := by decide +kernel
theorem d_L_law_437 : decode code 437 = .ok (.iaload, 1) := by decide +kernel
theorem d_L_law_438 : decode code 438 = .ok (.aload_n 0, 1) := by decide +kernel
theorem d_L_law_439 : decode code 439 = .ok (.iload_n 3, 1) := by decide +kernel
theorem d_L_law_440 : decode code 440 = .ok (.iconst 2, 1) := by decide +kernel
theorem d_L_law_441 : decode code 441 = .ok (.iadd, 1) := by decide +kernel
theorem d_L_law_442 : decode code 442 = .ok (.iaload, 1) := by decide +kernel
theorem d_L_law_443 : decode code 443 = .ok (.aload_n 0, 1) := by decide +kernel
theorem d_L_law_444 : decode code 444 = .ok (.iload_n 3, 1) := by decide +kernel
theorem d_L_law_445 : decode code 445 = .ok (.iconst 3, 1) := by decide +kernel
theorem d_L_law_446 : decode code 446 = .ok (.iadd, 1) := by decide +kernel
theorem d_L_law_447 : decode code 447 = .ok (.iaload, 1) := by decide +kernel
theorem d_L_law_448 : decode code 448 = .ok (.invokevirtual 56, 3) := by decide +kernel
theorem d_L_law_451 : decode code 451 = .ok (.if_icmp .eq 271, 3) := by decide +kernel
theorem d_L_law_454 : decode code 454 = .ok (.iconst 0, 1) := by decide +kernel
theorem d_L_law_455 : decode code 455 = .ok (.ireturn, 1) := by decide +kernel
theorem d_L_law_456 : decode code 456 = .ok (.aload_n 1, 1) := by decide +kernel
theorem d_L_law_457 : decode code 457 = .ok (.aload_n 0, 1) := by decide +kernel
theorem d_L_law_458 : decode code 458 = .ok (.iload_n 3, 1) := by decide +kernel
theorem d_L_law_459 : decode code 459 = .ok (.iconst 1, 1) := by decide +kernel
theorem d_L_law_460 : decode code 460 = .ok (.iadd, 1) := by decide +kernel
theorem d_L_law_461 : decode code 461 = .ok (.iaload, 1) := by decide +kernel
theorem d_L_law_462 : decode code 462 = .ok (.invokevirtual 57, 3) := by decide +kernel
theorem d_L_law_465 : decode code 465 = .ok (.aload_n 2, 1) := by decide +kernel
theorem d_L_law_466 : decode code 466 = .ok (.aload_n 0, 1) := by decide +kernel
theorem d_L_law_467 : decode code 467 = .ok (.iload_n 3, 1) := by decide +kernel
theorem d_L_law_468 : decode code 468 = .ok (.iconst 1, 1) := by decide +kernel
theorem d_L_law_469 : decode code 469 = .ok (.iadd, 1) := by decide +kernel
theorem d_L_law_470 : decode code 470 = .ok (.iaload, 1) := by decide +kernel
theorem d_L_law_471 : decode code 471 = .ok (.invokevirtual 60, 3) := by decide +kernel
theorem d_L_law_474 : decode code 474 = .ok (.if_icmp .eq 248, 3) := by decide +kernel
theorem d_L_law_477 : decode code 477 = .ok (.iconst 0, 1) := by decide +kernel
theorem d_L_law_478 : decode code 478 = .ok (.ireturn, 1) := by decide +kernel
theorem d_L_law_479 : decode code 479 = .ok (.aload_n 1, 1) := by decide +kernel
theorem d_L_law_480 : decode code 480 = .ok (.aload_n 0, 1) := by decide +kernel
theorem d_L_law_481 : decode code 481 = .ok (.iload_n 3, 1) := by decide +kernel
theorem d_L_law_482 : decode code 482 = .ok (.iconst 1, 1) := by decide +kernel
theorem d_L_law_483 : decode code 483 = .ok (.iadd, 1) := by decide +kernel
theorem d_L_law_484 : decode code 484 = .ok (.iaload, 1) := by decide +kernel
theorem d_L_law_485 : decode code 485 = .ok (.invokevirtual 61, 3) := by decide +kernel
theorem d_L_law_488 : decode code 488 = .ok (.aload_n 2, 1) := by decide +kernel
theorem d_L_law_489 : decode code 489 = .ok (.aload_n 0, 1) := by decide +kernel
theorem d_L_law_490 : decode code 490 = .ok (.iload_n 3, 1) := by decide +kernel
theorem d_L_law_491 : decode code 491 = .ok (.iconst 1, 1) := by decide +kernel
theorem d_L_law_492 : decode code 492 = .ok (.iadd, 1) := by decide +kernel
theorem d_L_law_493 : decode code 493 = .ok (.iaload, 1) := by decide +kernel
theorem d_L_law_494 : decode code 494 = .ok (.invokevirtual 64, 3) := by decide +kernel
theorem d_L_law_497 : decode code 497 = .ok (.if_icmp .eq 225, 3) := by decide +kernel
theorem d_L_law_500 : decode code 500 = .ok (.iconst 0, 1) := by decide +kernel
theorem d_L_law_501 : decode code 501 = .ok (.ireturn, 1) := by decide +kernel
theorem d_L_law_502 : decode code 502 = .ok (.aload_n 1, 1) := by decide +kernel
theorem d_L_law_503 : decode code 503 = .ok (.aload_n 0, 1) := by decide +kernel
theorem d_L_law_504 : decode code 504 = .ok (.iload_n 3, 1) := by decide +kernel
theorem d_L_law_505 : decode code 505 = .ok (.iconst 1, 1) := by decide +kernel
theorem d_L_law_506 : decode code 506 = .ok (.iadd, 1) := by decide +kernel
theorem d_L_law_507 : decode code 507 = .ok (.iaload, 1) := by decide +kernel
theorem d_L_law_508 : decode code 508 = .ok (.invokevirtual 65, 3) := by decide +kernel
theorem d_L_law_511 : decode code 511 = .ok (.aload_n 2, 1) := by decide +kernel
theorem d_L_law_512 : decode code 512 = .ok (.aload_n 0, 1) := by decide +kernel
theorem d_L_law_513 : decode code 513 = .ok (.iload_n 3, 1) := by decide +kernel
theorem d_L_law_514 : decode code 514 = .ok (.iconst 1, 1) := by decide +kernel
theorem d_L_law_515 : decode code 515 = .ok (.iadd, 1) := by decide +kernel
theorem d_L_law_516 : decode code 516 = .ok (.iaload, 1) := by decide +kernel
theorem d_L_law_517 : decode code 517 = .ok (.invokevirtual 68, 3) := by decide +kernel
theorem d_L_law_520 : decode code 520 = .ok (.if_icmp .eq 202, 3) := by decide +kernel
theorem d_L_law_523 : decode code 523 = .ok (.iconst 0, 1) := by decide +kernel
theorem d_L_law_524 : decode code 524 = .ok (.ireturn, 1) := by decide +kernel
theorem d_L_law_525 : decode code 525 = .ok (.aload_n 1, 1) := by decide +kernel
theorem d_L_law_526 : decode code 526 = .ok (.aload_n 0, 1) := by decide +kernel
theorem d_L_law_527 : decode code 527 = .ok (.iload_n 3, 1) := by decide +kernel
theorem d_L_law_528 : decode code 528 = .ok (.iconst 1, 1) := by decide +kernel
theorem d_L_law_529 : decode code 529 = .ok (.iadd, 1) := by decide +kernel
theorem d_L_law_530 : decode code 530 = .ok (.iaload, 1) := by decide +kernel
theorem d_L_law_531 : decode code 531 = .ok (.invokevirtual 69, 3) := by decide +kernel
theorem d_L_law_534 : decode code 534 = .ok (.aload_n 2, 1) := by decide +kernel
theorem d_L_law_535 : decode code 535 = .ok (.aload_n 0, 1) := by decide +kernel
theorem d_L_law_536 : decode code 536 = .ok (.iload_n 3, 1) := by decide +kernel
theorem d_L_law_537 : decode code 537 = .ok (.iconst 1, 1) := by decide +kernel
theorem d_L_law_538 : decode code 538 = .ok (.iadd, 1) := by decide +kernel
theorem d_L_law_539 : decode code 539 = .ok (.iaload, 1) := by decide +kernel
theorem d_L_law_540 : decode code 540 = .ok (.invokevirtual 72, 3) := by decide +kernel
theorem d_L_law_543 : decode code 543 = .ok (.if_icmp .eq 179, 3) := by decide +kernel
theorem d_L_law_546 : decode code 546 = .ok (.iconst 0, 1) := by decide +kernel
theorem d_L_law_547 : decode code 547 = .ok (.ireturn, 1) := by decide +kernel
theorem d_L_law_548 : decode code 548 = .ok (.aload_n 1, 1) := by decide +kernel
theorem d_L_law_549 : decode code 549 = .ok (.aload_n 0, 1) := by decide +kernel
theorem d_L_law_550 : decode code 550 = .ok (.iload_n 3, 1) := by decide +kernel
theorem d_L_law_551 : decode code 551 = .ok (.iconst 1, 1) := by decide +kernel
theorem d_L_law_552 : decode code 552 = .ok (.iadd, 1) := by decide +kernel
theorem d_L_law_553 : decode code 553 = .ok (.iaload, 1) := by decide +kernel
theorem d_L_law_554 : decode code 554 = .ok (.invokevirtual 73, 3) := by decide +kernel
theorem d_L_law_557 : decode code 557 = .ok (.aload_n 2, 1) := by decide +kernel
theorem d_L_law_558 : decode code 558 = .ok (.aload_n 0, 1) := by decide +kernel
theorem d_L_law_559 : decode code 559 = .ok (.iload_n 3, 1) := by decide +kernel
theorem d_L_law_560 : decode code 560 = .ok (.iconst 1, 1) := by decide +kernel
theorem d_L_law_561 : decode code 561 = .ok (.iadd, 1) := by decide +kernel
theorem d_L_law_562 : decode code 562 = .ok (.iaload, 1) := by decide +kernel
theorem d_L_law_563 : decode code 563 = .ok (.invokevirtual 76, 3) := by decide +kernel
theorem d_L_law_566 : decode code 566 = .ok (.if_icmp .eq 156, 3) := by decide +kernel
theorem d_L_law_569 : decode code 569 = .ok (.iconst 0, 1) := by decide +kernel
theorem d_L_law_570 : decode code 570 = .ok (.ireturn, 1) := by decide +kernel
theorem d_L_law_571 : decode code 571 = .ok (.aload_n 1, 1) := by decide +kernel
theorem d_L_law_572 : decode code 572 = .ok (.aload_n 0, 1) := by decide +kernel
theorem d_L_law_573 : decode code 573 = .ok (.iload_n 3, 1) := by decide +kernel
theorem d_L_law_574 : decode code 574 = .ok (.iconst 1, 1) := by decide +kernel
theorem d_L_law_575 : decode code 575 = .ok (.iadd, 1) := by decide +kernel
theorem d_L_law_576 : decode code 576 = .ok (.iaload, 1) := by decide +kernel
theorem d_L_law_577 : decode code 577 = .ok (.i2l, 1) := by decide +kernel
theorem d_L_law_578 : decode code 578 = .ok (.bipush 32, 2) := by decide +kernel
theorem d_L_law_580 : decode code 580 = .ok (.lshl, 1) := by decide +kernel
theorem d_L_law_581 : decode code 581 = .ok (.aload_n 0, 1) := by decide +kernel
theorem d_L_law_582 : decode code 582 = .ok (.iload_n 3, 1) := by decide +kernel
theorem d_L_law_583 : decode code 583 = .ok (.iconst 2, 1) := by decide +kernel
theorem d_L_law_584 : decode code 584 = .ok (.iadd, 1) := by decide +kernel
theorem d_L_law_585 : decode code 585 = .ok (.iaload, 1) := by decide +kernel
theorem d_L_law_586 : decode code 586 = .ok (.i2l, 1) := by decide +kernel
theorem d_L_law_587 : decode code 587 = .ok (.ldc2_w 77, 3) := by decide +kernel
theorem d_L_law_590 : decode code 590 = .ok (.land, 1) := by decide +kernel
theorem d_L_law_591 : decode code 591 = .ok (.lor, 1) := by decide +kernel
theorem d_L_law_592 : decode code 592 = .ok (.invokevirtual 79, 3) := by decide +kernel
theorem d_L_law_595 : decode code 595 = .ok (.aload_n 2, 1) := by decide +kernel
theorem d_L_law_596 : decode code 596 = .ok (.aload_n 0, 1) := by decide +kernel
theorem d_L_law_597 : decode code 597 = .ok (.iload_n 3, 1) := by decide +kernel
theorem d_L_law_598 : decode code 598 = .ok (.iconst 1, 1) := by decide +kernel
theorem d_L_law_599 : decode code 599 = .ok (.iadd, 1) := by decide +kernel
theorem d_L_law_600 : decode code 600 = .ok (.iaload, 1) := by decide +kernel
theorem d_L_law_601 : decode code 601 = .ok (.i2l, 1) := by decide +kernel
theorem d_L_law_602 : decode code 602 = .ok (.bipush 32, 2) := by decide +kernel
theorem d_L_law_604 : decode code 604 = .ok (.lshl, 1) := by decide +kernel
theorem d_L_law_605 : decode code 605 = .ok (.aload_n 0, 1) := by decide +kernel
theorem d_L_law_606 : decode code 606 = .ok (.iload_n 3, 1) := by decide +kernel
theorem d_L_law_607 : decode code 607 = .ok (.iconst 2, 1) := by decide +kernel
theorem d_L_law_608 : decode code 608 = .ok (.iadd, 1) := by decide +kernel
theorem d_L_law_609 : decode code 609 = .ok (.iaload, 1) := by decide +kernel
theorem d_L_law_610 : decode code 610 = .ok (.i2l, 1) := by decide +kernel
theorem d_L_law_611 : decode code 611 = .ok (.ldc2_w 77, 3) := by decide +kernel
theorem d_L_law_614 : decode code 614 = .ok (.land, 1) := by decide +kernel
theorem d_L_law_615 : decode code 615 = .ok (.lor, 1) := by decide +kernel
theorem d_L_law_616 : decode code 616 = .ok (.invokevirtual 83, 3) := by decide +kernel
theorem d_L_law_619 : decode code 619 = .ok (.if_icmp .eq 103, 3) := by decide +kernel
theorem d_L_law_622 : decode code 622 = .ok (.iconst 0, 1) := by decide +kernel
theorem d_L_law_623 : decode code 623 = .ok (.ireturn, 1) := by decide +kernel
theorem d_L_law_624 : decode code 624 = .ok (.aload_n 1, 1) := by decide +kernel
theorem d_L_law_625 : decode code 625 = .ok (.invokevirtual 84, 3) := by decide +kernel
theorem d_L_law_628 : decode code 628 = .ok (.aload_n 2, 1) := by decide +kernel
theorem d_L_law_629 : decode code 629 = .ok (.invokevirtual 87, 3) := by decide +kernel
theorem d_L_law_632 : decode code 632 = .ok (.if_icmp .eq 90, 3) := by decide +kernel
theorem d_L_law_635 : decode code 635 = .ok (.iconst 0, 1) := by decide +kernel
theorem d_L_law_636 : decode code 636 = .ok (.ireturn, 1) := by decide +kernel
theorem d_L_law_637 : decode code 637 = .ok (.aload_n 1, 1) := by decide +kernel
theorem d_L_law_638 : decode code 638 = .ok (.invokevirtual 88, 3) := by decide +kernel
theorem d_L_law_641 : decode code 641 = .ok (.aload_n 2, 1) := by decide +kernel
theorem d_L_law_642 : decode code 642 = .ok (.invokevirtual 91, 3) := by decide +kernel
theorem d_L_law_645 : decode code 645 = .ok (.if_icmp .eq 77, 3) := by decide +kernel
theorem d_L_law_648 : decode code 648 = .ok (.iconst 0, 1) := by decide +kernel
theorem d_L_law_649 : decode code 649 = .ok (.ireturn, 1) := by decide +kernel
theorem d_L_law_650 : decode code 650 = .ok (.aload_n 1, 1) := by decide +kernel
theorem d_L_law_651 : decode code 651 = .ok (.invokevirtual 92, 3) := by decide +kernel
theorem d_L_law_654 : decode code 654 = .ok (.aload_n 2, 1) := by decide +kernel
theorem d_L_law_655 : decode code 655 = .ok (.invokevirtual 95, 3) := by decide +kernel
theorem d_L_law_658 : decode code 658 = .ok (.if_icmp .eq 64, 3) := by decide +kernel
theorem d_L_law_661 : decode code 661 = .ok (.iconst 0, 1) := by decide +kernel
theorem d_L_law_662 : decode code 662 = .ok (.ireturn, 1) := by decide +kernel
theorem d_L_law_663 : decode code 663 = .ok (.aload_n 1, 1) := by decide +kernel
theorem d_L_law_664 : decode code 664 = .ok (.invokevirtual 96, 3) := by decide +kernel
theorem d_L_law_667 : decode code 667 = .ok (.aload_n 2, 1) := by decide +kernel
theorem d_L_law_668 : decode code 668 = .ok (.invokevirtual 99, 3) := by decide +kernel
theorem d_L_law_671 : decode code 671 = .ok (.if_icmp .eq 51, 3) := by decide +kernel
theorem d_L_law_674 : decode code 674 = .ok (.iconst 0, 1) := by decide +kernel
theorem d_L_law_675 : decode code 675 = .ok (.ireturn, 1) := by decide +kernel
theorem d_L_law_676 : decode code 676 = .ok (.aload_n 1, 1) := by decide +kernel
theorem d_L_law_677 : decode code 677 = .ok (.aload_n 0, 1) := by decide +kernel
theorem d_L_law_678 : decode code 678 = .ok (.iload_n 3, 1) := by decide +kernel
theorem d_L_law_679 : decode code 679 = .ok (.iconst 1, 1) := by decide +kernel
theorem d_L_law_680 : decode code 680 = .ok (.iadd, 1) := by decide +kernel
theorem d_L_law_681 : decode code 681 = .ok (.iaload, 1) := by decide +kernel
theorem d_L_law_682 : decode code 682 = .ok (.invokevirtual 100, 3) := by decide +kernel
theorem d_L_law_685 : decode code 685 = .ok (.aload_n 2, 1) := by decide +kernel
theorem d_L_law_686 : decode code 686 = .ok (.aload_n 0, 1) := by decide +kernel
theorem d_L_law_687 : decode code 687 = .ok (.iload_n 3, 1) := by decide +kernel
theorem d_L_law_688 : decode code 688 = .ok (.iconst 1, 1) := by decide +kernel
theorem d_L_law_689 : decode code 689 = .ok (.iadd, 1) := by decide +kernel
theorem d_L_law_690 : decode code 690 = .ok (.iaload, 1) := by decide +kernel
theorem d_L_law_691 : decode code 691 = .ok (.invokevirtual 103, 3) := by decide +kernel
theorem d_L_law_694 : decode code 694 = .ok (.if_icmp .eq 28, 3) := by decide +kernel
theorem d_L_law_697 : decode code 697 = .ok (.iconst 0, 1) := by decide +kernel
theorem d_L_law_698 : decode code 698 = .ok (.ireturn, 1) := by decide +kernel
theorem d_L_law_699 : decode code 699 = .ok (.aload_n 1, 1) := by decide +kernel
theorem d_L_law_700 : decode code 700 = .ok (.aload_n 0, 1) := by decide +kernel
theorem d_L_law_701 : decode code 701 = .ok (.iload_n 3, 1) := by decide +kernel
theorem d_L_law_702 : decode code 702 = .ok (.iconst 1, 1) := by decide +kernel
theorem d_L_law_703 : decode code 703 = .ok (.iadd, 1) := by decide +kernel
theorem d_L_law_704 : decode code 704 = .ok (.iaload, 1) := by decide +kernel
theorem d_L_law_705 : decode code 705 = .ok (.invokevirtual 104, 3) := by decide +kernel
theorem d_L_law_708 : decode code 708 = .ok (.aload_n 2, 1) := by decide +kernel
theorem d_L_law_709 : decode code 709 = .ok (.aload_n 0, 1) := by decide +kernel
theorem d_L_law_710 : decode code 710 = .ok (.iload_n 3, 1) := by decide +kernel
theorem d_L_law_711 : decode code 711 = .ok (.iconst 1, 1) := by decide +kernel
theorem d_L_law_712 : decode code 712 = .ok (.iadd, 1) := by decide +kernel
theorem d_L_law_713 : decode code 713 = .ok (.iaload, 1) := by decide +kernel
theorem d_L_law_714 : decode code 714 = .ok (.invokevirtual 107, 3) := by decide +kernel
theorem d_L_law_717 : decode code 717 = .ok (.if_icmp .eq 5, 3) := by decide +kernel
theorem d_L_law_720 : decode code 720 = .ok (.iconst 0, 1) := by decide +kernel
theorem d_L_law_721 : decode code 721 = .ok (.ireturn, 1) := by decide +kernel
theorem d_L_law_722 : decode code 722 = .ok (.iinc 3 4, 3) := by decide +kernel
theorem d_L_law_725 : decode code 725 = .ok (.goto (-707), 3) := by decide +kernel
theorem d_L_law_728 : decode code 728 = .ok (.iconst 1, 1) := by decide +kernel
theorem d_L_law_729 : decode code 729 = .ok (.ireturn, 1) := by decide +kernel
end
section
/-! The Tape's cells out of one function g of numbers: 0..7 its int fields, 8, 9 the counts, 10 + 4 * row + k the arrays (k: data, sums, marks, timesRead); the model's array s is such a function itself. -/
def tb (g : Nat → Int32) : Nat → Int32 := fun j => if j < 2 then g (8 + j) else 0
def td (k : Nat) (g : Nat → Int32) : Nat → Int32 := fun r => if r < 40 then g (10 + 4 * r + k) else 0
def tf (t : Nat → Nat) (g : Nat → Int32) : List Value := [.int (g 0), .int (g 1), .int (g 2), .int (g 3), .int (g 4), .int (g 5), .int (g 6), .int (g 7), .ref (t 1), .ref (t 2), .ref (t 3), .ref (t 4), .ref (t 5)]
def tw (ca : Nat → ClassId) (t : Nat → Nat) (g : Nat → Int32) : va_W := [(t 0, .inr (1, tf t g)), (t 1, .inl (ca 0, 2, .inl (tb g))), (t 2, .inl (ca 0, 40, .inl (td 0 g))), (t 3, .inl (ca 0, 40, .inl (td 1 g))), (t 4, .inl (ca 0, 40, .inl (td 2 g))), (t 5, .inl (ca 0, 40, .inl (td 3 g)))]
def mw (ca : Nat → ClassId) (o sa : Nat) (fs : List Value) (g : Nat → Int32) : va_W := [(o, .inr (4, .ref sa :: fs)), (sa, .inl (ca 0, 170, .inl g))]
theorem tb_up {g : Nat → Int32} {k : Nat} {v : Int32} (hk : k < 8 ∨ 10 ≤ k) : tb (upd g k v) = tb g := funext fun j => by
  unfold tb
  split
  · exact pk_un (by omega)
  · rfl
theorem td_up {g : Nat → Int32} {k i : Nat} {v : Int32} (hk : k < 10) : td i (upd g k v) = td i g := funext fun j => by
  unfold td
  split
  · exact pk_un (by omega)
  · rfl
theorem td_up2 {g : Nat → Int32} {r k i : Nat} {v : Int32} (hk : k < 4) (hi : i < 4) (h : i ≠ k) : td i (upd g (10 + 4 * r + k) v) = td i g := funext fun j => by
  unfold td
  split
  · exact pk_un (by omega)
  · rfl
theorem td_set {g : Nat → Int32} {r k : Nat} {v : Int32} (hr : r < 40) : upd (td k g) r v = td k (upd g (10 + 4 * r + k) v) := funext fun j => by
  by_cases hj : j = r
  · subst hj
    rw [pk_us]
    unfold td
    rw [if_pos hr, pk_us]
  · rw [pk_un hj]
    unfold td
    split
    · rw [pk_un (by omega)]
    · rfl
theorem tb_set {g : Nat → Int32} {f : Nat} {v : Int32} (hf : f < 2) : upd (tb g) f v = tb (upd g (8 + f) v) := funext fun j => by
  by_cases hj : j = f
  · subst hj
    rw [pk_us]
    unfold tb
    rw [if_pos hf, pk_us]
  · rw [pk_un hj]
    unfold tb
    split
    · rw [pk_un (by omega)]
    · rfl
theorem tf_up {t : Nat → Nat} {g : Nat → Int32} {k : Nat} {v : Int32} (hk : 8 ≤ k) : tf t (upd g k v) = tf t g := by
  unfold tf
  rw [pk_un (by omega), pk_un (by omega), pk_un (by omega), pk_un (by omega), pk_un (by omega), pk_un (by omega), pk_un (by omega), pk_un (by omega)]
theorem tw_put {ca : Nat → ClassId} {t : Nat → Nat} {g : Nat → Int32} {k : Nat} {v : Int32} (hk : k < 8) : (tw ca t g).set 0 (t 0, .inr (1, (tf t g).set k (.int v))) = tw ca t (upd g k v) := by
  have h : (tf t g).set k (.int v) = tf t (upd g k v) := by
    rcases (show k = 0 ∨ k = 1 ∨ k = 2 ∨ k = 3 ∨ k = 4 ∨ k = 5 ∨ k = 6 ∨ k = 7 by omega) with rfl | rfl | rfl | rfl | rfl | rfl | rfl | rfl <;> rfl
  rw [h]
  unfold tw
  rw [tb_up (by omega), td_up (by omega), td_up (by omega), td_up (by omega), td_up (by omega)]
  rfl
theorem tw_setb {ca : Nat → ClassId} {t : Nat → Nat} {g : Nat → Int32} {f : Nat} {v : Int32} (hf : f < 2) : (tw ca t g).set 1 (t 1, .inl (ca 0, 2, .inl (upd (tb g) f v))) = tw ca t (upd g (8 + f) v) := by
  unfold tw
  rw [tb_set hf, tf_up (by omega), td_up (by omega), td_up (by omega), td_up (by omega), td_up (by omega)]
  rfl
theorem tw_setd {ca : Nat → ClassId} {t : Nat → Nat} {g : Nat → Int32} {r k : Nat} {v : Int32} (hr : r < 40) (hk : k < 4) : (tw ca t g).set (2 + k) (t (2 + k), .inl (ca 0, 40, .inl (upd (td k g) r v))) = tw ca t (upd g (10 + 4 * r + k) v) := by
  rw [td_set hr]
  unfold tw
  rw [tf_up (by omega), tb_up (by omega)]
  rcases (show k = 0 ∨ k = 1 ∨ k = 2 ∨ k = 3 by omega) with rfl | rfl | rfl | rfl
  · rw [td_up2 (i := 1) (by omega) (by omega) (by omega), td_up2 (i := 2) (by omega) (by omega) (by omega), td_up2 (i := 3) (by omega) (by omega) (by omega)]; rfl
  · rw [td_up2 (i := 0) (by omega) (by omega) (by omega), td_up2 (i := 2) (by omega) (by omega) (by omega), td_up2 (i := 3) (by omega) (by omega) (by omega)]; rfl
  · rw [td_up2 (i := 0) (by omega) (by omega) (by omega), td_up2 (i := 1) (by omega) (by omega) (by omega), td_up2 (i := 3) (by omega) (by omega) (by omega)]; rfl
  · rw [td_up2 (i := 0) (by omega) (by omega) (by omega), td_up2 (i := 1) (by omega) (by omega) (by omega), td_up2 (i := 2) (by omega) (by omega) (by omega)]; rfl
theorem mw_set {ca : Nat → ClassId} {o sa : Nat} {fs : List Value} {g : Nat → Int32} {k : Nat} {v : Int32} : (mw ca o sa fs g).set 1 (sa, .inl (ca 0, 170, .inl (upd g k v))) = mw ca o sa fs (upd g k v) := rfl
theorem nI_cl {n : Nat} (h : n < 2 ^ 31) : (nI n).toNatClampNeg = n := nI_clamp h
/-- the counts are numbers from 0 to 20 -/
def bn (g : Nat → Int32) (f : Nat) : Nat := (g (8 + f)).toNatClampNeg
def BN (g : Nat → Int32) : Prop := ∀ f, f < 2 → g (8 + f) = nI (bn g f) ∧ bn g f ≤ 20
section TROWS
variable {p : Program} {l : Launch} {e : Env} {R : Room} {s : State} {m : MethodId} {args : Array Value} {below : List Frame} {meth : Method} {c : Code} {H H0 : Heap} {locs : List Loc} {cells slots : Nat} {Q : State → Prop}
variable {cc : ByteArray} {pc nL : Nat} {ls : Array Slot} {rest st0 : List Value} {D : va_G} {ca : Nat → ClassId} {A : Nat → Prop} {t : Nat → Nat} {g g' : Nat → Int32} {own : String} {idx : Nat} {y : MethodName} {b : ByteArray} {n k fr lo o sa : Nat} {rt : Option FieldType} {As fs : List Value} {E : Int32}
theorem T_put (S : CallFix p m c cc nL s args TB own) (hK : va_K D classes (tys ca) s) (hP : va_P D classes (tw ca t g) H) (hD : va_D A (tw ca t g)) (hS : va_S A H0 H locs) (k : Nat) (hk : k < 8) (hlink : Cond.fieldLink own idx R_T (F_T k).2.1 (F_T k).2.2.1 ∈ TB) {v : Int32} (hdg : decode cc pc = .ok (.putfield idx, 3))
    (kk : ∀ (H1 : Heap) (locs1 : List Loc), va_P D classes (tw ca t (upd g k v)) H1 → va_D A (tw ca t (upd g k v)) → va_S A H0 H1 locs1 → W p l e R s m args below meth c H1 locs1 cells slots Q (F0 m (pc + 3) ls rest)) : W p l e R s m args below meth c H locs cells slots Q (F0 m pc ls (.int v :: .ref (t 0) :: rest)) := by
  have h1 : (F_T k).1 = R_T ∧ (F_T k).2.2.2 = false ∧ ty_T k = .int := by
    rcases (show k = 0 ∨ k = 1 ∨ k = 2 ∨ k = 3 ∨ k = 4 ∨ k = 5 ∨ k = 6 ∨ k = 7 by omega) with rfl | rfl | rfl | rfl | rfl | rfl | rfl | rfl <;> exact ⟨rfl, rfl, rfl⟩
  refine f_put S cls_T hK hP hD hS 0 rfl k (by omega) hlink h1.1 h1.2.1 (by rw [h1.2.2]; rfl) (by rw [h1.2.2]; rfl) (show k < 13 by omega) hdg (fun H1 locs1 hP hD hS => ?_)
  rw [tw_put hk] at hP hD
  exact kk H1 locs1 hP hD hS
theorem T_bl (S : CallFix p m c cc nL s args TB own) (hK : va_K D classes (tys ca) s) (hP : va_P D classes (tw ca t g) H) (hB : BN g) {f : Nat} (hf : f < 2) {i : Int32} (hi : i = nI f) (hdg : decode cc pc = .ok (.iaload, 1))
    (kk : W p l e R s m args below meth c H locs cells slots Q (F0 m (pc + 1) ls (.int (nI (bn g f)) :: rest))) : W p l e R s m args below meth c H locs cells slots Q (F0 m pc ls (.int i :: .ref (t 1) :: rest)) := by
  subst hi
  refine va_iald (D := D) S.1 S.2.1 hK hP 1 0 rfl rfl (vp_in_nI hf (by omega)) hdg (lv_tope ?_ kk)
  rw [nI_clamp (by omega)]
  unfold tb
  rw [if_pos hf]
  exact (hB f hf).1
theorem T_ar (j : Nat) (hj : j < 4) (S : CallFix p m c cc nL s args TB own) (hK : va_K D classes (tys ca) s) (hP : va_P D classes (tw ca t g) H) {r : Nat} (hr : r < 40) {i : Int32} (hi : i = nI r) (hdg : decode cc pc = .ok (.iaload, 1))
    (kk : W p l e R s m args below meth c H locs cells slots Q (F0 m (pc + 1) ls (.int (g (10 + 4 * r + j)) :: rest))) : W p l e R s m args below meth c H locs cells slots Q (F0 m pc ls (.int i :: .ref (t (2 + j)) :: rest)) := by
  subst hi
  refine va_iald (D := D) (f := td j g) S.1 S.2.1 hK hP (2 + j) 0 ?_ rfl (vp_in_nI hr (by omega)) hdg (lv_tope ?_ kk)
  · rcases (show j = 0 ∨ j = 1 ∨ j = 2 ∨ j = 3 by omega) with rfl | rfl | rfl | rfl <;> rfl
  · rw [nI_clamp (by omega)]
    unfold td
    rw [if_pos hr]
theorem T_blst (S : CallFix p m c cc nL s args TB own) (hK : va_K D classes (tys ca) s) (hP : va_P D classes (tw ca t g) H) (hD : va_D A (tw ca t g)) (hS : va_S A H0 H locs) {f : Nat} (hf : f < 2) {i v : Int32} (hi : i = nI f) (hdg : decode cc pc = .ok (.iastore, 1))
    (kk : ∀ (H1 : Heap) (locs1 : List Loc), va_P D classes (tw ca t (upd g (8 + f) v)) H1 → va_D A (tw ca t (upd g (8 + f) v)) → va_S A H0 H1 locs1 → W p l e R s m args below meth c H1 locs1 cells slots Q (F0 m (pc + 1) ls rest)) : W p l e R s m args below meth c H locs cells slots Q (F0 m pc ls (.int v :: .int i :: .ref (t 1) :: rest)) := by
  subst hi
  refine va_iast (D := D) S.1 S.2.1 hK hP hD hS 1 0 rfl rfl (vp_in_nI hf (by omega)) hdg (fun H1 locs1 hP hD hS => ?_)
  rw [nI_clamp (by omega), tw_setb hf] at hP hD
  exact kk H1 locs1 hP hD hS
theorem T_arst (j : Nat) (hj : j < 4) (S : CallFix p m c cc nL s args TB own) (hK : va_K D classes (tys ca) s) (hP : va_P D classes (tw ca t g) H) (hD : va_D A (tw ca t g)) (hS : va_S A H0 H locs) {r : Nat} (hr : r < 40) {i v : Int32} (hi : i = nI r) (hdg : decode cc pc = .ok (.iastore, 1))
    (kk : ∀ (H1 : Heap) (locs1 : List Loc), va_P D classes (tw ca t (upd g (10 + 4 * r + j) v)) H1 → va_D A (tw ca t (upd g (10 + 4 * r + j) v)) → va_S A H0 H1 locs1 → W p l e R s m args below meth c H1 locs1 cells slots Q (F0 m (pc + 1) ls rest)) : W p l e R s m args below meth c H locs cells slots Q (F0 m pc ls (.int v :: .int i :: .ref (t (2 + j)) :: rest)) := by
  subst hi
  refine va_iast (D := D) (f := td j g) S.1 S.2.1 hK hP hD hS (2 + j) 0 ?_ rfl (vp_in_nI hr (by omega)) hdg (fun H1 locs1 hP hD hS => ?_)
  · rcases (show j = 0 ∨ j = 1 ∨ j = 2 ∨ j = 3 by omega) with rfl | rfl | rfl | rfl <;> rfl
  · rw [nI_clamp (by omega), tw_setd hr hj] at hP hD
    exact kk H1 locs1 hP hD hS
theorem M_ld (S : CallFix p m c cc nL s args TB own) (hK : va_K D classes (tys ca) s) (hP : va_P D classes (mw ca o sa fs g) H) {r : Nat} (hr : r < 170) {i : Int32} (hi : i = nI r) (hdg : decode cc pc = .ok (.iaload, 1))
    (kk : W p l e R s m args below meth c H locs cells slots Q (F0 m (pc + 1) ls (.int (g r) :: rest))) : W p l e R s m args below meth c H locs cells slots Q (F0 m pc ls (.int i :: .ref sa :: rest)) := by
  subst hi
  refine va_iald (D := D) (f := g) S.1 S.2.1 hK hP 1 0 rfl rfl (vp_in_nI hr (by omega)) hdg (lv_tope ?_ kk)
  rw [nI_clamp (by omega)]
theorem M_st (S : CallFix p m c cc nL s args TB own) (hK : va_K D classes (tys ca) s) (hP : va_P D classes (mw ca o sa fs g) H) (hD : va_D A (mw ca o sa fs g)) (hS : va_S A H0 H locs) {r : Nat} (hr : r < 170) {i v : Int32} (hi : i = nI r) (hdg : decode cc pc = .ok (.iastore, 1))
    (kk : ∀ (H1 : Heap) (locs1 : List Loc), va_P D classes (mw ca o sa fs (upd g r v)) H1 → va_D A (mw ca o sa fs (upd g r v)) → va_S A H0 H1 locs1 → W p l e R s m args below meth c H1 locs1 cells slots Q (F0 m (pc + 1) ls rest)) : W p l e R s m args below meth c H locs cells slots Q (F0 m pc ls (.int v :: .int i :: .ref sa :: rest)) := by
  subst hi
  refine va_iast (D := D) (f := g) S.1 S.2.1 hK hP hD hS 1 0 rfl rfl (vp_in_nI hr (by omega)) hdg (fun H1 locs1 hP hD hS => ?_)
  rw [nI_clamp (by omega)] at hP hD
  exact kk H1 locs1 hP hD hS
/-- calls of a Tape on itself: all its cells go along -/
theorem T_ro (S : CallFix p m c cc nL s args TB own) (hM : RO l y b n rt fr lo D ca (.ref (t 0) :: As) (tw ca t g) E) (h : CW own idx y b n rt k) (hy : y.cls = R_T) (hP : va_P D classes (tw ca t g) H) (hK : va_K D classes (tys ca) s) (hk : As.length = k) (hst : st0 = As.reverse ++ .ref (t 0) :: rest) (hsz : ls.size = nL) (hR : fr + 1 ≤ R.frames ∧ 8 + (n + 11) + lo ≤ R.locals) (hc : cells ≤ R.cells ∧ slots ≤ R.slots) (hW : (rest.map fun v => v.category).sum ≤ 8) (hdg : decode cc pc = .ok (.invokevirtual idx, 3))
    (kk : W p l e R s m args below meth c H locs cells slots Q (F0 m (pc + 3) ls (.int E :: rest))) : W p l e R s m args below meth c H locs cells slots Q (F0 m pc ls st0) :=
  RO.callV S hM h hP hK [0, 1, 2, 3, 4, 5] rfl 0 (ci := 1) (fs := tf t g) rfl (by rw [hy]; rfl) hk hst hsz hR hc hW hdg kk
theorem T_ro0 (S : CallFix p m c cc nL s args TB own) (hM : RO l y b n rt fr lo D ca (.ref (t 0) :: As) [] E) (h : CW own idx y b n rt k) (hy : y.cls = R_T) (hP : va_P D classes (tw ca t g) H) (hK : va_K D classes (tys ca) s) (hk : As.length = k) (hst : st0 = As.reverse ++ .ref (t 0) :: rest) (hsz : ls.size = nL) (hR : fr + 1 ≤ R.frames ∧ 8 + (n + 11) + lo ≤ R.locals) (hc : cells ≤ R.cells ∧ slots ≤ R.slots) (hW : (rest.map fun v => v.category).sum ≤ 8) (hdg : decode cc pc = .ok (.invokevirtual idx, 3))
    (kk : W p l e R s m args below meth c H locs cells slots Q (F0 m (pc + 3) ls (.int E :: rest))) : W p l e R s m args below meth c H locs cells slots Q (F0 m pc ls st0) :=
  RO.callV S hM h hP hK [] rfl 0 (ci := 1) (fs := tf t g) rfl (by rw [hy]; rfl) hk hst hsz hR hc hW hdg kk
theorem T_mi (S : CallFix p m c cc nL s args TB own) (hM : MI l y b n rt fr lo D ca (.ref (t 0) :: As) (tw ca t g) E (tw ca t g')) (h : CW own idx y b n rt k) (hy : y.cls = R_T) (hP : va_P D classes (tw ca t g) H) (hD : va_D A (tw ca t g)) (hS : va_S A H0 H locs) (hA : ∀ q, H0.size ≤ q → A q) (hK : va_K D classes (tys ca) s) (hk : As.length = k) (hst : st0 = As.reverse ++ .ref (t 0) :: rest) (hsz : ls.size = nL) (hR : fr + 1 ≤ R.frames ∧ 8 + (n + 11) + lo ≤ R.locals) (hc : cells ≤ R.cells ∧ slots ≤ R.slots) (hW : (rest.map fun v => v.category).sum ≤ 8) (hdg : decode cc pc = .ok (.invokevirtual idx, 3))
    (kk : ∀ (H1 : Heap) (locs1 : List Loc), va_P D classes (tw ca t g') H1 → va_D A (tw ca t g') → va_S A H0 H1 locs1 → W p l e R s m args below meth c H1 locs1 cells slots Q (F0 m (pc + 3) ls (.int E :: rest))) : W p l e R s m args below meth c H locs cells slots Q (F0 m pc ls st0) :=
  MI.callV (wr := []) S hM h hP hD hS hA hK [0, 1, 2, 3, 4, 5] [] rfl rfl (by decide) rfl (fun i h => by cases h) 0 (ci := 1) (fs := tf t g) rfl (by rw [hy]; rfl) hk hst hsz hR hc hW hdg kk
/-- calls of the model on itself -/
theorem M_ro (S : CallFix p m c cc nL s args TB own) (hM : RO l y b n rt fr lo D ca (.ref o :: As) (mw ca o sa fs g) E) (h : CW own idx y b n rt k) (hy : y.cls = R_M) (hP : va_P D classes (mw ca o sa fs g) H) (hK : va_K D classes (tys ca) s) (hk : As.length = k) (hst : st0 = As.reverse ++ .ref o :: rest) (hsz : ls.size = nL) (hR : fr + 1 ≤ R.frames ∧ 8 + (n + 11) + lo ≤ R.locals) (hc : cells ≤ R.cells ∧ slots ≤ R.slots) (hW : (rest.map fun v => v.category).sum ≤ 8) (hdg : decode cc pc = .ok (.invokevirtual idx, 3))
    (kk : W p l e R s m args below meth c H locs cells slots Q (F0 m (pc + 3) ls (.int E :: rest))) : W p l e R s m args below meth c H locs cells slots Q (F0 m pc ls st0) :=
  RO.callV S hM h hP hK [0, 1] rfl 0 (ci := 4) (fs := .ref sa :: fs) rfl (by rw [hy]; rfl) hk hst hsz hR hc hW hdg kk
theorem M_mi (S : CallFix p m c cc nL s args TB own) (hM : MI l y b n rt fr lo D ca (.ref o :: As) (mw ca o sa fs g) E (mw ca o sa fs g')) (h : CW own idx y b n rt k) (hy : y.cls = R_M) (hP : va_P D classes (mw ca o sa fs g) H) (hD : va_D A (mw ca o sa fs g)) (hS : va_S A H0 H locs) (hA : ∀ q, H0.size ≤ q → A q) (hK : va_K D classes (tys ca) s) (hk : As.length = k) (hst : st0 = As.reverse ++ .ref o :: rest) (hsz : ls.size = nL) (hR : fr + 1 ≤ R.frames ∧ 8 + (n + 11) + lo ≤ R.locals) (hc : cells ≤ R.cells ∧ slots ≤ R.slots) (hW : (rest.map fun v => v.category).sum ≤ 8) (hdg : decode cc pc = .ok (.invokevirtual idx, 3))
    (kk : ∀ (H1 : Heap) (locs1 : List Loc), va_P D classes (mw ca o sa fs g') H1 → va_D A (mw ca o sa fs g') → va_S A H0 H1 locs1 → W p l e R s m args below meth c H1 locs1 cells slots Q (F0 m (pc + 3) ls (.int E :: rest))) : W p l e R s m args below meth c H locs cells slots Q (F0 m pc ls st0) :=
  MI.callV (wr := []) S hM h hP hD hS hA hK [0, 1] [] rfl rfl (by decide) rfl (fun i h => by cases h) 0 (ci := 4) (fs := .ref sa :: fs) rfl (by rw [hy]; rfl) hk hst hsz hR hc hW hdg kk
theorem M_mv (S : CallFix p m c cc nL s args TB own) (hM : MV l y b n fr lo D ca (.ref o :: As) (mw ca o sa fs g) (mw ca o sa fs g')) (h : CW own idx y b n none k) (hy : y.cls = R_M) (hP : va_P D classes (mw ca o sa fs g) H) (hD : va_D A (mw ca o sa fs g)) (hS : va_S A H0 H locs) (hA : ∀ q, H0.size ≤ q → A q) (hK : va_K D classes (tys ca) s) (hk : As.length = k) (hst : st0 = As.reverse ++ .ref o :: rest) (hsz : ls.size = nL) (hR : fr + 1 ≤ R.frames ∧ 8 + (n + 11) + lo ≤ R.locals) (hc : cells ≤ R.cells ∧ slots ≤ R.slots) (hW : (rest.map fun v => v.category).sum ≤ 8) (hdg : decode cc pc = .ok (.invokevirtual idx, 3))
    (kk : ∀ (H1 : Heap) (locs1 : List Loc), va_P D classes (mw ca o sa fs g') H1 → va_D A (mw ca o sa fs g') → va_S A H0 H1 locs1 → W p l e R s m args below meth c H1 locs1 cells slots Q (F0 m (pc + 3) ls rest)) : W p l e R s m args below meth c H locs cells slots Q (F0 m pc ls st0) :=
  MV.callV (wr := []) S hM h hP hD hS hA hK [0, 1] [] rfl rfl (by decide) rfl (fun i h => by cases h) 0 (ci := 4) (fs := .ref sa :: fs) rfl (by rw [hy]; rfl) hk hst hsz hR hc hW hdg kk
end TROWS
end
section
/-! What the Tape's private methods answer -/
def isf (x : Int32) : Int32 := if x < 0 then 0 else if 2 ≤ x then 0 else 1
def ibk (g : Nat → Int32) (x y : Int32) : Int32 := if isf x = 0 then 0 else if y < 0 then 0 else if nI (bn g x.toNatClampNeg) ≤ y then 0 else 1
def wl (g : Nat → Int32) (r : Nat) : Int32 := g (10 + 4 * r + 0) + 2 * g (10 + 4 * r + 2)
def ft (g : Nat → Int32) (f : Nat) : Nat → Int32
  | 0 => 0
  | n + 1 => ft g f n + wl g (f * 20 + n)
def tot (g : Nat → Int32) (k f : Nat) : Nat → Int32
  | 0 => 0
  | n + 1 => tot g k f n + g (10 + 4 * (f * 20 + n) + k)
def gp (g : Nat → Int32) : Int32 := g 0 - ft g 0 (bn g 0) - ft g 1 (bn g 1)
def en (g : Nat → Int32) (f : Nat) : Int32 := if f = 0 then ft g f (bn g f) else g 0 - ft g f (bn g f)
def lo (g : Nat → Int32) (f b : Nat) : Int32 := if f = 0 then ft g f b else g 0 - ft g f (b + 1)
def sr (g : Nat → Int32) (f b w : Nat) : Int32 := if f = w then lo g f b else lo g f b + wl g (f * 20 + b)
def ab (z : Int32) : Int32 := if 0 ≤ z then z else 0 - z
def tr (g : Nat → Int32) (f b w : Nat) : Int32 := ab (sr g f b w - g 3) + wl g (f * 20 + b)
def rem9 (z : Int32) : Int32 := z - z / 1000000000 * 1000000000
def tv (g : Nat → Int32) (x : Int32) : Nat → Int32 := upd (upd g 6 (rem9 (g 6 + ab (x - g 3)))) 3 x
def iig (g : Nat → Int32) (x y : Int32) : Int32 := if x < en g 0 then 0 else if en g 1 < y then 0 else 1
theorem isf_of {x : Int32} (h : ¬ isf x = 0) : ∃ f, f < 2 ∧ x = nI f := by
  unfold isf at h
  split at h
  · exact absurd rfl h
  · rename_i h1
    split at h
    · exact absurd rfl h
    · rename_i h2
      obtain ⟨j, hj, rfl⟩ := nI_of h1
      refine ⟨j, ?_, rfl⟩
      rcases Nat.lt_or_ge j 2 with q | q
      · exact q
      · exact absurd (nI_le (a := 2) q hj) h2
theorem isf_nI {f : Nat} (h : f < 2) : isf (nI f) = 1 := by
  rcases (show f = 0 ∨ f = 1 by omega) with rfl | rfl <;> decide
theorem isf_ne {f : Nat} (h : f < 2) : ¬ isf (nI f) = 0 := by rw [isf_nI h]; decide
theorem nI0 {f : Nat} (h : f < 2 ^ 31) (q : nI f = 0) : f = 0 := (nI_eq h (by decide)).mp q
theorem n0I {f : Nat} (q : ¬ nI f = 0) : ¬ f = 0 := fun h => q (by rw [h]; rfl)
theorem nle_lt {a b : Nat} (ha : a < 2 ^ 31) (hb : b < 2 ^ 31) (h : ¬ nI b ≤ nI a) : a < b := by
  rcases Nat.lt_or_ge a b with q | q
  · exact q
  · exact absurd ((nI_leI hb ha).mpr q) h
theorem le_of_nI {a b : Nat} (ha : a < 2 ^ 31) (hb : b < 2 ^ 31) (h : nI b ≤ nI a) : b ≤ a := (nI_leI hb ha).mp h
set_option maxHeartbeats 4000000 in
set_option maxRecDepth 100000 in
theorem c_T_isFile (l : Launch) (D : va_G) (ca : Nat → ClassId) (a0 : Nat) (x : Int32) : RO l y_T_isFile b_T_isFile 2 (some .boolean) 0 0 D ca [.ref a0, .int x] [] (isf x) := by
  refine RO.mk (ty := .boolean) rfl rfl (Nat.le_of_ble_eq_true rfl) ?_
  intro p e s m args below meth c Q S hP hK
  obtain ⟨hx, hb, hml, hown, hts⟩ := id S
  intro hret ls hl0
  have hl : lv_has ls 2 [(0, .ref a0), (1, .int x)] := hl0
  refine lv_iload_n hx hb d_T_isFile_0 rfl (lv_at hl 1 rfl) ?_
  refine lv_if_lt (tgt := 13) hx hb d_T_isFile_1 (by decide) (fun c_1 => ?_) (fun c_1 => ?_)
  · refine lv_iconst (v := 0) hx hb d_T_isFile_13 (by decide) ?_
    exact hret _ _ _ d_T_isFile_14 rfl (by first | (simp only [isf, c_1, ↓reduceIte]; done) | (simp only [isf, c_1, ↓reduceIte]; rfl) | rfl)
  · refine lv_iload_n hx hb d_T_isFile_4 rfl (lv_at hl 1 rfl) ?_
    refine lv_iconst (v := 2) hx hb d_T_isFile_5 (by decide) ?_
    refine lv_icmp_ge (tgt := 13) hx hb d_T_isFile_6 (by decide) (fun c_6 => ?_) (fun c_6 => ?_)
    · refine lv_iconst (v := 0) hx hb d_T_isFile_13 (by decide) ?_
      exact hret _ _ _ d_T_isFile_14 rfl (by first | (simp only [isf, c_1, c_6, ↓reduceIte]; done) | (simp only [isf, c_1, c_6, ↓reduceIte]; rfl) | rfl)
    · refine lv_iconst (v := 1) hx hb d_T_isFile_9 (by decide) ?_
      refine lv_goto (tgt := 14) hx hb d_T_isFile_10 (by decide) ?_
      exact hret _ _ _ d_T_isFile_14 rfl (by first | (simp only [isf, c_1, c_6, ↓reduceIte]; done) | (simp only [isf, c_1, c_6, ↓reduceIte]; rfl) | rfl)
set_option maxHeartbeats 4000000 in
set_option maxRecDepth 100000 in
theorem c_T_rowOf (l : Launch) (D : va_G) (ca : Nat → ClassId) (a0 : Nat) (f b : Nat) : RO l y_T_rowOf b_T_rowOf 3 (some .int) 0 0 D ca [.ref a0, .int (nI f), .int (nI b)] [] (nI (f * 20 + b)) := by
  refine RO.mk (ty := .int) rfl rfl (Nat.le_of_ble_eq_true rfl) ?_
  intro p e s m args below meth c Q S hP hK
  obtain ⟨hx, hb, hml, hown, hts⟩ := id S
  intro hret ls hl0
  have hl : lv_has ls 3 [(0, .ref a0), (1, .int (nI f)), (2, .int (nI b))] := hl0
  refine lv_iload_n hx hb d_T_rowOf_0 rfl (lv_at hl 1 rfl) ?_
  refine lv_bipush (v := 20) hx hb d_T_rowOf_1 (by decide) ?_
  refine lv_imul hx hb d_T_rowOf_3 ?_
  refine lv_tope (z := nI (f * 20)) (pk_mul f 20) ?_
  refine lv_iload_n hx hb d_T_rowOf_4 rfl (lv_at hl 2 rfl) ?_
  refine lv_iadd hx hb d_T_rowOf_5 ?_
  refine lv_tope (z := nI ((f * 20) + b)) (nI_add (f * 20) b) ?_
  exact hret _ _ _ d_T_rowOf_6 rfl (by first | (simp only [↓reduceIte]; done) | (simp only [↓reduceIte]; rfl) | rfl)
set_option maxHeartbeats 4000000 in
set_option maxRecDepth 100000 in
theorem c_T_wholeLength (l : Launch) (D : va_G) (ca : Nat → ClassId) (t : Nat → Nat) (g : Nat → Int32) (r : Nat) (hr : r < 40): RO l y_T_wholeLength b_T_wholeLength 2 (some .int) 0 0 D ca [.ref (t 0), .int (nI r)] (tw ca t g) (wl g r) := by
  refine RO.mk (ty := .int) rfl rfl (Nat.le_of_ble_eq_true rfl) ?_
  intro p e s m args below meth c Q S hP hK
  obtain ⟨hx, hb, hml, hown, hts⟩ := id S
  intro hret ls hl0
  have hl : lv_has ls 2 [(0, .ref (t 0)), (1, .int (nI r))] := hl0
  refine lv_aload_n hx hb d_T_wholeLength_0 rfl (lv_at hl 0 rfl) ?_
  refine f_get S cls_T hK hP 0 rfl 9 (by decide) fl_T_data rfl rfl d_T_wholeLength_1 ?_
  refine lv_iload_n hx hb d_T_wholeLength_4 rfl (lv_at hl 1 rfl) ?_
  refine T_ar 0 (by decide) S hK hP (r := r) (by omega) rfl d_T_wholeLength_5 ?_
  refine lv_iconst (v := 2) hx hb d_T_wholeLength_6 (by decide) ?_
  refine lv_aload_n hx hb d_T_wholeLength_7 rfl (lv_at hl 0 rfl) ?_
  refine f_get S cls_T hK hP 0 rfl 11 (by decide) fl_T_marks rfl rfl d_T_wholeLength_8 ?_
  refine lv_iload_n hx hb d_T_wholeLength_11 rfl (lv_at hl 1 rfl) ?_
  refine T_ar 2 (by decide) S hK hP (r := r) (by omega) rfl d_T_wholeLength_12 ?_
  refine lv_imul hx hb d_T_wholeLength_13 ?_
  refine lv_iadd hx hb d_T_wholeLength_14 ?_
  exact hret _ _ _ d_T_wholeLength_15 rfl (by first | (simp only [wl, ↓reduceIte]; done) | (simp only [wl, ↓reduceIte]; rfl) | rfl)
set_option maxHeartbeats 4000000 in
set_option maxRecDepth 100000 in
theorem c_T_feetOfFirst (l : Launch) (D : va_G) (ca : Nat → ClassId) (t : Nat → Nat) (g : Nat → Int32) (f n : Nat) (hf : f < 2) (hn : n ≤ 20): RO l y_T_feetOfFirst b_T_feetOfFirst 5 (some .int) 1 22 D ca [.ref (t 0), .int (nI f), .int (nI n)] (tw ca t g) (ft g f n) := by
  refine RO.mk (ty := .int) rfl rfl (Nat.le_of_ble_eq_true rfl) ?_
  intro p e s m args below meth c Q S hP hK
  obtain ⟨hx, hb, hml, hown, hts⟩ := id S
  intro hret ls hl0
  have hl : lv_has ls 5 [(0, .ref (t 0)), (1, .int (nI f)), (2, .int (nI n))] := hl0
  refine lv_iconst (v := 0) hx hb d_T_feetOfFirst_0 (by decide) ?_
  refine lv_istore_n (lv' := [(3, .int 0), (0, .ref (t 0)), (1, .int (nI f)), (2, .int (nI n))]) hx hb d_T_feetOfFirst_1 rfl hl (by decide) rfl (fun ls hl => ?_)
  refine lv_iconst (v := 0) hx hb d_T_feetOfFirst_2 (by decide) ?_
  refine lv_istore (lv' := [(4, .int 0), (3, .int 0), (0, .ref (t 0)), (1, .int (nI f)), (2, .int (nI n))]) hx hb d_T_feetOfFirst_3 hl (by decide) rfl (fun ls hl => ?_)
  suffices lp : ∀ (k i : Nat), n - i < k → i ≤ n → ∀ ls : Array Slot, lv_has ls 5 [(3, .int (ft g f i)), (4, .int (nI i)), (0, .ref (t 0)), (1, .int (nI f)), (2, .int (nI n))] → W p l e (rm 1 22 0 0) s m args below meth c s.heap [] 0 0 Q (F0 m 5 ls []) from lp (n + 1) 0 (by omega) (by omega) _ (lv_sub hl [1, 0, 2, 3, 4] rfl)
  intro k
  induction k with
  | zero => intro i hi; omega
  | succ k ih =>
    intro i hi hin ls hl
    refine lv_iload hx hb d_T_feetOfFirst_5 (lv_at hl 1 rfl) ?_
    refine lv_iload_n hx hb d_T_feetOfFirst_7 rfl (lv_at hl 4 rfl) ?_
    refine lv_icmp_ge (tgt := 31) hx hb d_T_feetOfFirst_8 (by decide) (fun c_8 => ?_) (fun c_8 => ?_)
    · have e_8 : n ≤ i := le_of_nI (by omega) (by omega) c_8
      have e2_8 : i = n := by omega
      subst e2_8
      refine lv_iload_n hx hb d_T_feetOfFirst_31 rfl (lv_at hl 0 rfl) ?_
      exact hret _ _ _ d_T_feetOfFirst_32 rfl (by first | (simp only [ft, c_8, ↓reduceIte]; done) | (simp only [ft, c_8, ↓reduceIte]; rfl) | rfl)
    · have e_8 : i < n := nle_lt (by omega) (by omega) c_8
      refine lv_iload_n hx hb d_T_feetOfFirst_11 rfl (lv_at hl 0 rfl) ?_
      refine lv_aload_n hx hb d_T_feetOfFirst_12 rfl (lv_at hl 2 rfl) ?_
      refine lv_aload_n hx hb d_T_feetOfFirst_13 rfl (lv_at hl 2 rfl) ?_
      refine lv_iload_n hx hb d_T_feetOfFirst_14 rfl (lv_at hl 3 rfl) ?_
      refine lv_iload hx hb d_T_feetOfFirst_15 (lv_at hl 1 rfl) ?_
      refine T_ro0 S (c_T_rowOf l D ca (t 0) f i ) k_T_82 rfl hP hK rfl rfl hl.1 ⟨Nat.le_of_ble_eq_true rfl, Nat.le_of_ble_eq_true rfl⟩ ⟨Nat.zero_le _, Nat.zero_le _⟩ (Nat.le_of_ble_eq_true rfl) d_T_feetOfFirst_17 ?_
      refine T_ro S (c_T_wholeLength l D ca t g (f * 20 + i) (by omega)) k_T_113 rfl hP hK rfl rfl hl.1 ⟨Nat.le_of_ble_eq_true rfl, Nat.le_of_ble_eq_true rfl⟩ ⟨Nat.zero_le _, Nat.zero_le _⟩ (Nat.le_of_ble_eq_true rfl) d_T_feetOfFirst_20 ?_
      refine lv_iadd hx hb d_T_feetOfFirst_23 ?_
      refine lv_istore_n (lv' := [(3, .int (ft g f (i + 1))), (4, .int (nI i)), (0, .ref (t 0)), (1, .int (nI f)), (2, .int (nI n))]) hx hb d_T_feetOfFirst_24 rfl hl (by decide) rfl (fun ls hl => ?_)
      refine lv_iinc (v := nI (i + 1)) (lv' := [(4, .int (nI (i + 1))), (3, .int (ft g f (i + 1))), (0, .ref (t 0)), (1, .int (nI f)), (2, .int (nI n))]) hx hb d_T_feetOfFirst_25 hl (k := 1) rfl (nI_1 i) (by decide) rfl (fun ls hl => ?_)
      refine lv_goto (tgt := 5) hx hb d_T_feetOfFirst_28 (by decide) ?_
      exact ih (i + 1) (by omega) (by omega) _ (lv_sub hl [1, 0, 2, 3, 4] rfl)
set_option maxHeartbeats 4000000 in
set_option maxRecDepth 100000 in
theorem c_T_gap (l : Launch) (D : va_G) (ca : Nat → ClassId) (t : Nat → Nat) (g : Nat → Int32)  (hB : BN g): RO l y_T_gap b_T_gap 1 (some .int) 2 46 D ca [.ref (t 0)] (tw ca t g) (gp g) := by
  refine RO.mk (ty := .int) rfl rfl (Nat.le_of_ble_eq_true rfl) ?_
  intro p e s m args below meth c Q S hP hK
  obtain ⟨hx, hb, hml, hown, hts⟩ := id S
  intro hret ls hl0
  have hl : lv_has ls 1 [(0, .ref (t 0))] := hl0
  refine lv_aload_n hx hb d_T_gap_0 rfl (lv_at hl 0 rfl) ?_
  refine f_get S cls_T hK hP 0 rfl 0 (by decide) fl_T_feet rfl rfl d_T_gap_1 ?_
  refine lv_aload_n hx hb d_T_gap_4 rfl (lv_at hl 0 rfl) ?_
  refine lv_iconst (v := 0) hx hb d_T_gap_5 (by decide) ?_
  refine lv_aload_n hx hb d_T_gap_6 rfl (lv_at hl 0 rfl) ?_
  refine f_get S cls_T hK hP 0 rfl 8 (by decide) fl_T_blocks rfl rfl d_T_gap_7 ?_
  refine lv_iconst (v := 0) hx hb d_T_gap_10 (by decide) ?_
  refine T_bl S hK hP hB (f := 0) (by omega) rfl d_T_gap_11 ?_
  have hn0 := (hB 0 (by omega)).2
  refine T_ro S (c_T_feetOfFirst l D ca t g 0 (bn g 0) (by omega) (by omega)) k_T_106 rfl hP hK rfl rfl hl.1 ⟨Nat.le_of_ble_eq_true rfl, Nat.le_of_ble_eq_true rfl⟩ ⟨Nat.zero_le _, Nat.zero_le _⟩ (Nat.le_of_ble_eq_true rfl) d_T_gap_12 ?_
  refine lv_isub hx hb d_T_gap_15 ?_
  refine lv_aload_n hx hb d_T_gap_16 rfl (lv_at hl 0 rfl) ?_
  refine lv_iconst (v := 1) hx hb d_T_gap_17 (by decide) ?_
  refine lv_aload_n hx hb d_T_gap_18 rfl (lv_at hl 0 rfl) ?_
  refine f_get S cls_T hK hP 0 rfl 8 (by decide) fl_T_blocks rfl rfl d_T_gap_19 ?_
  refine lv_iconst (v := 1) hx hb d_T_gap_22 (by decide) ?_
  refine T_bl S hK hP hB (f := 1) (by omega) rfl d_T_gap_23 ?_
  have hn1 := (hB 1 (by omega)).2
  refine T_ro S (c_T_feetOfFirst l D ca t g 1 (bn g 1) (by omega) (by omega)) k_T_106 rfl hP hK rfl rfl hl.1 ⟨Nat.le_of_ble_eq_true rfl, Nat.le_of_ble_eq_true rfl⟩ ⟨Nat.zero_le _, Nat.zero_le _⟩ (Nat.le_of_ble_eq_true rfl) d_T_gap_24 ?_
  refine lv_isub hx hb d_T_gap_27 ?_
  exact hret _ _ _ d_T_gap_28 rfl (by first | (simp only [gp, ↓reduceIte]; done) | (simp only [gp, ↓reduceIte]; rfl) | rfl)
set_option maxHeartbeats 4000000 in
set_option maxRecDepth 100000 in
theorem c_T_endInGap (l : Launch) (D : va_G) (ca : Nat → ClassId) (t : Nat → Nat) (g : Nat → Int32) (f : Nat) (hB : BN g) (hf : f < 2): RO l y_T_endInGap b_T_endInGap 3 (some .int) 2 46 D ca [.ref (t 0), .int (nI f)] (tw ca t g) (en g f) := by
  refine RO.mk (ty := .int) rfl rfl (Nat.le_of_ble_eq_true rfl) ?_
  intro p e s m args below meth c Q S hP hK
  obtain ⟨hx, hb, hml, hown, hts⟩ := id S
  intro hret ls hl0
  have hl : lv_has ls 3 [(0, .ref (t 0)), (1, .int (nI f))] := hl0
  refine lv_aload_n hx hb d_T_endInGap_0 rfl (lv_at hl 0 rfl) ?_
  refine lv_iload_n hx hb d_T_endInGap_1 rfl (lv_at hl 1 rfl) ?_
  refine lv_aload_n hx hb d_T_endInGap_2 rfl (lv_at hl 0 rfl) ?_
  refine f_get S cls_T hK hP 0 rfl 8 (by decide) fl_T_blocks rfl rfl d_T_endInGap_3 ?_
  refine lv_iload_n hx hb d_T_endInGap_6 rfl (lv_at hl 1 rfl) ?_
  refine T_bl S hK hP hB (f := f) (by omega) rfl d_T_endInGap_7 ?_
  have hn := (hB f hf).2
  refine T_ro S (c_T_feetOfFirst l D ca t g f (bn g f) (by omega) (by omega)) k_T_106 rfl hP hK rfl rfl hl.1 ⟨Nat.le_of_ble_eq_true rfl, Nat.le_of_ble_eq_true rfl⟩ ⟨Nat.zero_le _, Nat.zero_le _⟩ (Nat.le_of_ble_eq_true rfl) d_T_endInGap_8 ?_
  refine lv_istore_n (lv' := [(2, .int (ft g f (bn g f))), (0, .ref (t 0)), (1, .int (nI f))]) hx hb d_T_endInGap_11 rfl hl (by decide) rfl (fun ls hl => ?_)
  refine lv_iload_n hx hb d_T_endInGap_12 rfl (lv_at hl 2 rfl) ?_
  refine lv_if_ne (tgt := 20) hx hb d_T_endInGap_13 (by decide) (fun c_13 => ?_) (fun c_13 => ?_)
  · have e_c_13 : ¬ f = 0 := n0I c_13
    refine lv_aload_n hx hb d_T_endInGap_20 rfl (lv_at hl 1 rfl) ?_
    refine f_get S cls_T hK hP 0 rfl 0 (by decide) fl_T_feet rfl rfl d_T_endInGap_21 ?_
    refine lv_iload_n hx hb d_T_endInGap_24 rfl (lv_at hl 0 rfl) ?_
    refine lv_isub hx hb d_T_endInGap_25 ?_
    exact hret _ _ _ d_T_endInGap_26 rfl (by first | (simp only [en, c_13, e_c_13, ↓reduceIte]; done) | (simp only [en, c_13, e_c_13, ↓reduceIte]; rfl) | rfl)
  · have e_c_13 : f = 0 := nI0 (by omega) c_13
    refine lv_iload_n hx hb d_T_endInGap_16 rfl (lv_at hl 0 rfl) ?_
    refine lv_goto (tgt := 26) hx hb d_T_endInGap_17 (by decide) ?_
    exact hret _ _ _ d_T_endInGap_26 rfl (by first | (simp only [en, c_13, e_c_13, ↓reduceIte]; done) | (simp only [en, c_13, e_c_13, ↓reduceIte]; rfl) | rfl)
set_option maxHeartbeats 4000000 in
set_option maxRecDepth 100000 in
theorem c_T_isInGap (l : Launch) (D : va_G) (ca : Nat → ClassId) (t : Nat → Nat) (g : Nat → Int32) (x y : Int32) (hB : BN g): RO l y_T_isInGap b_T_isInGap 3 (some .boolean) 3 68 D ca [.ref (t 0), .int x, .int y] (tw ca t g) (iig g x y) := by
  refine RO.mk (ty := .boolean) rfl rfl (Nat.le_of_ble_eq_true rfl) ?_
  intro p e s m args below meth c Q S hP hK
  obtain ⟨hx, hb, hml, hown, hts⟩ := id S
  intro hret ls hl0
  have hl : lv_has ls 3 [(0, .ref (t 0)), (1, .int x), (2, .int y)] := hl0
  refine lv_iload_n hx hb d_T_isInGap_0 rfl (lv_at hl 1 rfl) ?_
  refine lv_aload_n hx hb d_T_isInGap_1 rfl (lv_at hl 0 rfl) ?_
  refine lv_iconst (v := 0) hx hb d_T_isInGap_2 (by decide) ?_
  refine T_ro S (c_T_endInGap l D ca t g 0 hB (by omega)) k_T_75 rfl hP hK rfl rfl hl.1 ⟨Nat.le_of_ble_eq_true rfl, Nat.le_of_ble_eq_true rfl⟩ ⟨Nat.zero_le _, Nat.zero_le _⟩ (Nat.le_of_ble_eq_true rfl) d_T_isInGap_3 ?_
  refine lv_icmp_lt (tgt := 22) hx hb d_T_isInGap_6 (by decide) (fun c_6 => ?_) (fun c_6 => ?_)
  · refine lv_iconst (v := 0) hx hb d_T_isInGap_22 (by decide) ?_
    exact hret _ _ _ d_T_isInGap_23 rfl (by first | (simp only [iig, c_6, ↓reduceIte]; done) | (simp only [iig, c_6, ↓reduceIte]; rfl) | rfl)
  · refine lv_iload_n hx hb d_T_isInGap_9 rfl (lv_at hl 2 rfl) ?_
    refine lv_aload_n hx hb d_T_isInGap_10 rfl (lv_at hl 0 rfl) ?_
    refine lv_iconst (v := 1) hx hb d_T_isInGap_11 (by decide) ?_
    refine T_ro S (c_T_endInGap l D ca t g 1 hB (by omega)) k_T_75 rfl hP hK rfl rfl hl.1 ⟨Nat.le_of_ble_eq_true rfl, Nat.le_of_ble_eq_true rfl⟩ ⟨Nat.zero_le _, Nat.zero_le _⟩ (Nat.le_of_ble_eq_true rfl) d_T_isInGap_12 ?_
    refine lv_icmp_gt (tgt := 22) hx hb d_T_isInGap_15 (by decide) (fun c_15 => ?_) (fun c_15 => ?_)
    · refine lv_iconst (v := 0) hx hb d_T_isInGap_22 (by decide) ?_
      exact hret _ _ _ d_T_isInGap_23 rfl (by first | (simp only [iig, c_6, c_15, ↓reduceIte]; done) | (simp only [iig, c_6, c_15, ↓reduceIte]; rfl) | rfl)
    · refine lv_iconst (v := 1) hx hb d_T_isInGap_18 (by decide) ?_
      refine lv_goto (tgt := 23) hx hb d_T_isInGap_19 (by decide) ?_
      exact hret _ _ _ d_T_isInGap_23 rfl (by first | (simp only [iig, c_6, c_15, ↓reduceIte]; done) | (simp only [iig, c_6, c_15, ↓reduceIte]; rfl) | rfl)
set_option maxHeartbeats 4000000 in
set_option maxRecDepth 100000 in
theorem c_T_lowerEnd (l : Launch) (D : va_G) (ca : Nat → ClassId) (t : Nat → Nat) (g : Nat → Int32) (f b : Nat) (hf : f < 2) (hb20 : b < 20): RO l y_T_lowerEnd b_T_lowerEnd 3 (some .int) 2 46 D ca [.ref (t 0), .int (nI f), .int (nI b)] (tw ca t g) (lo g f b) := by
  refine RO.mk (ty := .int) rfl rfl (Nat.le_of_ble_eq_true rfl) ?_
  intro p e s m args below meth c Q S hP hK
  obtain ⟨hx, hb, hml, hown, hts⟩ := id S
  intro hret ls hl0
  have hl : lv_has ls 3 [(0, .ref (t 0)), (1, .int (nI f)), (2, .int (nI b))] := hl0
  refine lv_iload_n hx hb d_T_lowerEnd_0 rfl (lv_at hl 1 rfl) ?_
  refine lv_if_ne (tgt := 13) hx hb d_T_lowerEnd_1 (by decide) (fun c_1 => ?_) (fun c_1 => ?_)
  · have e_c_1 : ¬ f = 0 := n0I c_1
    refine lv_aload_n hx hb d_T_lowerEnd_13 rfl (lv_at hl 0 rfl) ?_
    refine f_get S cls_T hK hP 0 rfl 0 (by decide) fl_T_feet rfl rfl d_T_lowerEnd_14 ?_
    refine lv_aload_n hx hb d_T_lowerEnd_17 rfl (lv_at hl 0 rfl) ?_
    refine lv_iload_n hx hb d_T_lowerEnd_18 rfl (lv_at hl 1 rfl) ?_
    refine lv_iload_n hx hb d_T_lowerEnd_19 rfl (lv_at hl 2 rfl) ?_
    refine lv_iconst (v := 1) hx hb d_T_lowerEnd_20 (by decide) ?_
    refine lv_iadd hx hb d_T_lowerEnd_21 ?_
    refine lv_tope (z := nI (b + 1)) (nI_add b 1) ?_
    refine T_ro S (c_T_feetOfFirst l D ca t g f (b + 1) (by omega) (by omega)) k_T_106 rfl hP hK rfl rfl hl.1 ⟨Nat.le_of_ble_eq_true rfl, Nat.le_of_ble_eq_true rfl⟩ ⟨Nat.zero_le _, Nat.zero_le _⟩ (Nat.le_of_ble_eq_true rfl) d_T_lowerEnd_22 ?_
    refine lv_isub hx hb d_T_lowerEnd_25 ?_
    exact hret _ _ _ d_T_lowerEnd_26 rfl (by first | (simp only [lo, c_1, e_c_1, ↓reduceIte]; done) | (simp only [lo, c_1, e_c_1, ↓reduceIte]; rfl) | rfl)
  · have e_c_1 : f = 0 := nI0 (by omega) c_1
    refine lv_aload_n hx hb d_T_lowerEnd_4 rfl (lv_at hl 0 rfl) ?_
    refine lv_iload_n hx hb d_T_lowerEnd_5 rfl (lv_at hl 1 rfl) ?_
    refine lv_iload_n hx hb d_T_lowerEnd_6 rfl (lv_at hl 2 rfl) ?_
    refine T_ro S (c_T_feetOfFirst l D ca t g f b (by omega) (by omega)) k_T_106 rfl hP hK rfl rfl hl.1 ⟨Nat.le_of_ble_eq_true rfl, Nat.le_of_ble_eq_true rfl⟩ ⟨Nat.zero_le _, Nat.zero_le _⟩ (Nat.le_of_ble_eq_true rfl) d_T_lowerEnd_7 ?_
    refine lv_goto (tgt := 26) hx hb d_T_lowerEnd_10 (by decide) ?_
    exact hret _ _ _ d_T_lowerEnd_26 rfl (by first | (simp only [lo, c_1, e_c_1, ↓reduceIte]; done) | (simp only [lo, c_1, e_c_1, ↓reduceIte]; rfl) | rfl)
set_option maxHeartbeats 4000000 in
set_option maxRecDepth 100000 in
theorem c_T_startOfReading (l : Launch) (D : va_G) (ca : Nat → ClassId) (t : Nat → Nat) (g : Nat → Int32) (f b w : Nat) (hf : f < 2) (hb20 : b < 20) (hw : w < 2): RO l y_T_startOfReading b_T_startOfReading 5 (some .int) 3 68 D ca [.ref (t 0), .int (nI f), .int (nI b), .int (nI w)] (tw ca t g) (sr g f b w) := by
  refine RO.mk (ty := .int) rfl rfl (Nat.le_of_ble_eq_true rfl) ?_
  intro p e s m args below meth c Q S hP hK
  obtain ⟨hx, hb, hml, hown, hts⟩ := id S
  intro hret ls hl0
  have hl : lv_has ls 5 [(0, .ref (t 0)), (1, .int (nI f)), (2, .int (nI b)), (3, .int (nI w))] := hl0
  refine lv_aload_n hx hb d_T_startOfReading_0 rfl (lv_at hl 0 rfl) ?_
  refine lv_iload_n hx hb d_T_startOfReading_1 rfl (lv_at hl 1 rfl) ?_
  refine lv_iload_n hx hb d_T_startOfReading_2 rfl (lv_at hl 2 rfl) ?_
  refine T_ro S (c_T_lowerEnd l D ca t g f b (by omega) (by omega)) k_T_116 rfl hP hK rfl rfl hl.1 ⟨Nat.le_of_ble_eq_true rfl, Nat.le_of_ble_eq_true rfl⟩ ⟨Nat.zero_le _, Nat.zero_le _⟩ (Nat.le_of_ble_eq_true rfl) d_T_startOfReading_3 ?_
  refine lv_istore (lv' := [(4, .int (lo g f b)), (0, .ref (t 0)), (1, .int (nI f)), (2, .int (nI b)), (3, .int (nI w))]) hx hb d_T_startOfReading_6 hl (by decide) rfl (fun ls hl => ?_)
  refine lv_iload_n hx hb d_T_startOfReading_8 rfl (lv_at hl 2 rfl) ?_
  refine lv_iload_n hx hb d_T_startOfReading_9 rfl (lv_at hl 4 rfl) ?_
  refine lv_icmp_ne (tgt := 18) hx hb d_T_startOfReading_10 (by decide) (fun c_10 => ?_) (fun c_10 => ?_)
  · have e_10 : ¬ f = w := fun q => c_10 (by rw [q])
    refine lv_iload hx hb d_T_startOfReading_18 (lv_at hl 0 rfl) ?_
    refine lv_aload_n hx hb d_T_startOfReading_20 rfl (lv_at hl 1 rfl) ?_
    refine lv_aload_n hx hb d_T_startOfReading_21 rfl (lv_at hl 1 rfl) ?_
    refine lv_iload_n hx hb d_T_startOfReading_22 rfl (lv_at hl 2 rfl) ?_
    refine lv_iload_n hx hb d_T_startOfReading_23 rfl (lv_at hl 3 rfl) ?_
    refine T_ro0 S (c_T_rowOf l D ca (t 0) f b ) k_T_82 rfl hP hK rfl rfl hl.1 ⟨Nat.le_of_ble_eq_true rfl, Nat.le_of_ble_eq_true rfl⟩ ⟨Nat.zero_le _, Nat.zero_le _⟩ (Nat.le_of_ble_eq_true rfl) d_T_startOfReading_24 ?_
    refine T_ro S (c_T_wholeLength l D ca t g (f * 20 + b) (by omega)) k_T_113 rfl hP hK rfl rfl hl.1 ⟨Nat.le_of_ble_eq_true rfl, Nat.le_of_ble_eq_true rfl⟩ ⟨Nat.zero_le _, Nat.zero_le _⟩ (Nat.le_of_ble_eq_true rfl) d_T_startOfReading_27 ?_
    refine lv_iadd hx hb d_T_startOfReading_30 ?_
    exact hret _ _ _ d_T_startOfReading_31 rfl (by first | (simp only [sr, c_10, e_10, ↓reduceIte]; done) | (simp only [sr, c_10, e_10, ↓reduceIte]; rfl) | rfl)
  · have e_10 : f = w := (nI_eq (by omega) (by omega)).mp c_10
    refine lv_iload hx hb d_T_startOfReading_13 (lv_at hl 0 rfl) ?_
    refine lv_goto (tgt := 31) hx hb d_T_startOfReading_15 (by decide) ?_
    exact hret _ _ _ d_T_startOfReading_31 rfl (by first | (simp only [sr, c_10, e_10, ↓reduceIte]; done) | (simp only [sr, c_10, e_10, ↓reduceIte]; rfl) | rfl)
set_option maxHeartbeats 4000000 in
set_option maxRecDepth 100000 in
theorem c_T_travelToRead (l : Launch) (D : va_G) (ca : Nat → ClassId) (t : Nat → Nat) (g : Nat → Int32) (f b w : Nat) (hf : f < 2) (hb20 : b < 20) (hw : w < 2): RO l y_T_travelToRead b_T_travelToRead 4 (some .int) 4 92 D ca [.ref (t 0), .int (nI f), .int (nI b), .int (nI w)] (tw ca t g) (tr g f b w) := by
  refine RO.mk (ty := .int) rfl rfl (Nat.le_of_ble_eq_true rfl) ?_
  intro p e s m args below meth c Q S hP hK
  obtain ⟨hx, hb, hml, hown, hts⟩ := id S
  intro hret ls hl0
  have hl : lv_has ls 4 [(0, .ref (t 0)), (1, .int (nI f)), (2, .int (nI b)), (3, .int (nI w))] := hl0
  refine lv_aload_n hx hb d_T_travelToRead_0 rfl (lv_at hl 0 rfl) ?_
  refine lv_iload_n hx hb d_T_travelToRead_1 rfl (lv_at hl 1 rfl) ?_
  refine lv_iload_n hx hb d_T_travelToRead_2 rfl (lv_at hl 2 rfl) ?_
  refine lv_iload_n hx hb d_T_travelToRead_3 rfl (lv_at hl 3 rfl) ?_
  refine T_ro S (c_T_startOfReading l D ca t g f b w (by omega) (by omega) (by omega)) k_T_89 rfl hP hK rfl rfl hl.1 ⟨Nat.le_of_ble_eq_true rfl, Nat.le_of_ble_eq_true rfl⟩ ⟨Nat.zero_le _, Nat.zero_le _⟩ (Nat.le_of_ble_eq_true rfl) d_T_travelToRead_4 ?_
  refine lv_aload_n hx hb d_T_travelToRead_7 rfl (lv_at hl 0 rfl) ?_
  refine f_get S cls_T hK hP 0 rfl 3 (by decide) fl_T_head rfl rfl d_T_travelToRead_8 ?_
  refine lv_isub hx hb d_T_travelToRead_11 ?_
  refine va_mabs hx hb (hml.trans hl.1.symm) hown (hts _ kx_T_102) (hts _ xs_Math_abs) (hts _ in_java_lang_Math) (hts _ xc_Math_abs) (Nat.le_of_ble_eq_true rfl) (Nat.le_of_ble_eq_true rfl) (Nat.zero_le _) (Nat.zero_le _) d_T_travelToRead_12 ?_
  refine lv_tope (z := ab ((sr g f b w) - (g 3))) rfl ?_
  refine lv_aload_n hx hb d_T_travelToRead_15 rfl (lv_at hl 0 rfl) ?_
  refine lv_aload_n hx hb d_T_travelToRead_16 rfl (lv_at hl 0 rfl) ?_
  refine lv_iload_n hx hb d_T_travelToRead_17 rfl (lv_at hl 1 rfl) ?_
  refine lv_iload_n hx hb d_T_travelToRead_18 rfl (lv_at hl 2 rfl) ?_
  refine T_ro0 S (c_T_rowOf l D ca (t 0) f b ) k_T_82 rfl hP hK rfl rfl hl.1 ⟨Nat.le_of_ble_eq_true rfl, Nat.le_of_ble_eq_true rfl⟩ ⟨Nat.zero_le _, Nat.zero_le _⟩ (Nat.le_of_ble_eq_true rfl) d_T_travelToRead_19 ?_
  refine T_ro S (c_T_wholeLength l D ca t g (f * 20 + b) (by omega)) k_T_113 rfl hP hK rfl rfl hl.1 ⟨Nat.le_of_ble_eq_true rfl, Nat.le_of_ble_eq_true rfl⟩ ⟨Nat.zero_le _, Nat.zero_le _⟩ (Nat.le_of_ble_eq_true rfl) d_T_travelToRead_22 ?_
  refine lv_iadd hx hb d_T_travelToRead_25 ?_
  exact hret _ _ _ d_T_travelToRead_26 rfl (by first | (simp only [tr, ab, ↓reduceIte]; done) | (simp only [tr, ab, ↓reduceIte]; rfl) | rfl)
set_option maxHeartbeats 4000000 in
set_option maxRecDepth 100000 in
theorem c_T_allBlocks (l : Launch) (D : va_G) (ca : Nat → ClassId) (t : Nat → Nat) (g : Nat → Int32)  (hB : BN g): RO l y_T_allBlocks b_T_allBlocks 1 (some .int) 0 0 D ca [.ref (t 0)] (tw ca t g) (nI (bn g 0 + bn g 1)) := by
  refine RO.mk (ty := .int) rfl rfl (Nat.le_of_ble_eq_true rfl) ?_
  intro p e s m args below meth c Q S hP hK
  obtain ⟨hx, hb, hml, hown, hts⟩ := id S
  intro hret ls hl0
  have hl : lv_has ls 1 [(0, .ref (t 0))] := hl0
  refine lv_aload_n hx hb d_T_allBlocks_0 rfl (lv_at hl 0 rfl) ?_
  refine f_get S cls_T hK hP 0 rfl 8 (by decide) fl_T_blocks rfl rfl d_T_allBlocks_1 ?_
  refine lv_iconst (v := 0) hx hb d_T_allBlocks_4 (by decide) ?_
  refine T_bl S hK hP hB (f := 0) (by omega) rfl d_T_allBlocks_5 ?_
  refine lv_aload_n hx hb d_T_allBlocks_6 rfl (lv_at hl 0 rfl) ?_
  refine f_get S cls_T hK hP 0 rfl 8 (by decide) fl_T_blocks rfl rfl d_T_allBlocks_7 ?_
  refine lv_iconst (v := 1) hx hb d_T_allBlocks_10 (by decide) ?_
  refine T_bl S hK hP hB (f := 1) (by omega) rfl d_T_allBlocks_11 ?_
  refine lv_iadd hx hb d_T_allBlocks_12 ?_
  refine lv_tope (z := nI ((bn g 0) + (bn g 1))) (nI_add (bn g 0) (bn g 1)) ?_
  exact hret _ _ _ d_T_allBlocks_13 rfl (by first | (simp only [↓reduceIte]; done) | (simp only [↓reduceIte]; rfl) | rfl)
set_option maxHeartbeats 4000000 in
set_option maxRecDepth 100000 in
theorem c_T_travelTo (l : Launch) (D : va_G) (ca : Nat → ClassId) (t : Nat → Nat) (g : Nat → Int32) (x : Int32) : MI l y_T_travelTo b_T_travelTo 3 (some .int) 1 30 D ca [.ref (t 0), .int x] (tw ca t g) (ab (x - g 3)) (tw ca t (tv g x)) := by
  refine MI.mk (ty := .int) rfl rfl (Nat.le_of_ble_eq_true rfl) ?_
  intro p e s m args below meth c Q A S hA hP hD hK
  obtain ⟨hx, hb, hml, hown, hts⟩ := id S
  intro hret ls hl0 hS
  have hl : lv_has ls 3 [(0, .ref (t 0)), (1, .int x)] := hl0
  refine lv_iload_n hx hb d_T_travelTo_0 rfl (lv_at hl 1 rfl) ?_
  refine lv_aload_n hx hb d_T_travelTo_1 rfl (lv_at hl 0 rfl) ?_
  refine f_get S cls_T hK hP 0 rfl 3 (by decide) fl_T_head rfl rfl d_T_travelTo_2 ?_
  refine lv_isub hx hb d_T_travelTo_5 ?_
  refine va_mabs hx hb (hml.trans hl.1.symm) hown (hts _ kx_T_102) (hts _ xs_Math_abs) (hts _ in_java_lang_Math) (hts _ xc_Math_abs) (Nat.le_of_ble_eq_true rfl) (Nat.le_of_ble_eq_true rfl) (Nat.zero_le _) (Nat.zero_le _) d_T_travelTo_6 ?_
  refine lv_tope (z := ab (x - (g 3))) rfl ?_
  refine lv_tope (z := ab (x - g 3)) (rfl) ?_
  refine lv_istore_n (lv' := [(2, .int (ab (x - g 3))), (0, .ref (t 0)), (1, .int x)]) hx hb d_T_travelTo_9 rfl hl (by decide) rfl (fun ls hl => ?_)
  refine lv_aload_n hx hb d_T_travelTo_10 rfl (lv_at hl 1 rfl) ?_
  refine lv_aload_n hx hb d_T_travelTo_11 rfl (lv_at hl 1 rfl) ?_
  refine f_get S cls_T hK hP 0 rfl 6 (by decide) fl_T_travel rfl rfl d_T_travelTo_12 ?_
  refine lv_iload_n hx hb d_T_travelTo_15 rfl (lv_at hl 0 rfl) ?_
  refine lv_iadd hx hb d_T_travelTo_16 ?_
  refine lv_ldc (v := 1000000000) hx hb hown (hts _ ct_T_105) d_T_travelTo_17 ?_
  refine lv_irem hx hb d_T_travelTo_19 (by decide) ?_
  refine T_put S hK hP hD hS 6 (by decide) fl_T_travel d_T_travelTo_20 (fun H locs hP hD hS => ?_)
  obtain ⟨g1, hg1⟩ : ∃ z : Nat → Int32, z = upd g 6 (((g 6) + (ab (x - g 3))) - ((g 6) + (ab (x - g 3))) / 1000000000 * 1000000000) := ⟨_, rfl⟩
  rw [← hg1] at hP hD
  refine lv_aload_n hx hb d_T_travelTo_23 rfl (lv_at hl 1 rfl) ?_
  refine lv_iload_n hx hb d_T_travelTo_24 rfl (lv_at hl 2 rfl) ?_
  refine T_put S hK hP hD hS 3 (by decide) fl_T_head d_T_travelTo_25 (fun H locs hP hD hS => ?_)
  obtain ⟨g2, hg2⟩ : ∃ z : Nat → Int32, z = upd g1 3 x := ⟨_, rfl⟩
  rw [← hg2] at hP hD
  refine lv_iload_n hx hb d_T_travelTo_28 rfl (lv_at hl 0 rfl) ?_
  exact hret _ _ _ _ _ _ d_T_travelTo_29 rfl (by subst hg1 hg2; first | (simp only [tv, rem9, ↓reduceIte]; done) | (simp only [tv, rem9, ↓reduceIte]; rfl) | rfl) (by subst hg1 hg2; first | (simp only [tv, rem9, ↓reduceIte]; done) | (simp only [tv, rem9, ↓reduceIte]; rfl) | rfl) hP hD hS
end
section
/-! The Tape's other methods -/
def mn2 (x y : Int32) : Int32 := if y < x then y else x
def mx2 (x y : Int32) : Int32 := if x < y then y else x
def atp (g : Nat → Int32) (x : Int32) : Int32 := if x = 0 then g 0 else if x = 1 then g 1 else if x = 2 then g 2 else if x = 3 then g 3 else if x = 4 then gp g else if x = 5 then nI (bn g 0 + bn g 1) else if x = 6 then g 4 else if x = 7 then g 5 else if x = 8 then g 6 else if x = 9 then g 7 else -2
def afv (g : Nat → Int32) (f : Nat) (y : Int32) : Int32 := if y = 0 then nI (bn g f) else if y = 1 then ft g f (bn g f) else if y = 2 then tot g 0 f (bn g f) else if y = 3 then en g f else if y = 4 then tot g 1 f (bn g f) else -2
def afl (g : Nat → Int32) (x y : Int32) : Int32 := if isf x = 0 then -1 else afv g x.toNatClampNeg y
def abv (g : Nat → Int32) (f b : Nat) (z : Int32) : Int32 := if z = 0 then g (10 + 4 * (f * 20 + b) + 0) else if z = 1 then g (10 + 4 * (f * 20 + b) + 1) else if z = 2 then wl g (f * 20 + b) else if z = 3 then lo g f b else if z = 4 then lo g f b + wl g (f * 20 + b) else if z = 5 then g (10 + 4 * (f * 20 + b) + 3) else if z = 6 then tr g f b 0 else if z = 7 then tr g f b 1 else -2
def abl (g : Nat → Int32) (x y z : Int32) : Int32 := if ibk g x y = 0 then -1 else abv g x.toNatClampNeg y.toNatClampNeg z
def fd (g : Nat → Int32) (f b : Nat) : Int32 := lo g f b + g (10 + 4 * (f * 20 + b) + 2)
def rwb (g : Nat → Int32) (x y : Int32) (f : Nat) : Nat → Nat → Option Nat
  | 0, _ => none
  | k + 1, b => if x < fd g f b then rwb g x y f k (b + 1) else if fd g f b + g (10 + 4 * (f * 20 + b) + 0) < y then rwb g x y f k (b + 1) else some (f * 20 + b)
def rwq (g : Nat → Int32) (x y : Int32) : Nat → Nat → Int32
  | 0, _ => -1
  | k + 1, f => (rwb g x y f (bn g f) 0).elim (rwq g x y k (f + 1)) nI
def rwd (g : Nat → Int32) (x y : Int32) : Int32 := rwq g x y 2 0
def kof (g : Nat → Int32) (x : Int32) : Int32 := if x < 0 then -2 else if x < g 0 then (if iig g x (x + 1) = 0 then (if en g 0 ≤ x then (if 0 ≤ rwd g x (x + 1) then 12 else 11) else (if 0 ≤ rwd g x (x + 1) then 2 else 1)) else 0) else -2
def grd (g : Nat → Int32) (x : Int32) : Int32 := if isf x = 0 then -1 else if nI (bn g x.toNatClampNeg) < 20 then mx2 0 (mn2 99 (gp g - g 1 - 2 * g 2)) else 0
def btf (g : Nat → Int32) (x : Int32) : Int32 := if x < 1 then -2 else if x ≤ 99 then (if 1 ≤ x + 2 * g 2 then mn2 (40 - nI (bn g 0 + bn g 1)) ((gp g - g 1) / (x + 2 * g 2)) else 0) else -2
def nsa (g : Nat → Int32) (x : Int32) (f b w : Nat) : Int32 := if x = 0 then nI f else if x = 1 then nI b else if x = 2 then nI w else tr g f b w
def nst (g : Nat → Int32) (x : Int32) (f b w : Nat) (q : Int32 × Int32) : Int32 × Int32 := if q.1 < 0 then (tr g f b w, nsa g x f b w) else if q.1 ≤ tr g f b w then q else (tr g f b w, nsa g x f b w)
def nsb (g : Nat → Int32) (x : Int32) (f : Nat) : Nat → Nat → Int32 × Int32 → Int32 × Int32
  | 0, _, q => q
  | k + 1, b, q => nsb g x f k (b + 1) (nst g x f b 1 (nst g x f b 0 q))
def nsf (g : Nat → Int32) (x : Int32) : Nat → Nat → Int32 × Int32 → Int32 × Int32
  | 0, _, q => q
  | k + 1, f, q => nsf g x k (f + 1) (nsb g x f (bn g f) 0 q)
def nsr (g : Nat → Int32) (x : Int32) : Int32 := if x < 0 then -2 else if x ≤ 3 then (nsf g x 2 0 (-1, -6)).2 else -2
def s_len (g : Nat → Int32) (x : Int32) : Int32 × (Nat → Int32) := if x < 100 then (-2, g) else if x ≤ 2000 then (if 0 < nI (bn g 0 + bn g 1) then (-5, g) else if g 4 ≤ 0 then (g 0, upd (upd g 0 x) 3 (mn2 ((upd g 0 x) 3) ((upd g 0 x) 0))) else (-5, g)) else (-2, g)
def s_tun (g : Nat → Int32) (x y : Int32) : Int32 × (Nat → Int32) := if x < 1 then (-2, g) else if 99 < x then (-2, g) else if y < 1 then (-2, g) else if y ≤ 9 then (if x ≤ gp g then (g 1 + 100 * g 2, upd (upd g 1 x) 2 y) else (-5, g)) else (-2, g)
def s_wr (g : Nat → Int32) (f b : Nat) (d u : Int32) : Nat → Int32 :=
  let g1 := tv g (en g f)
  let g2 := upd g1 (10 + 4 * (f * 20 + b) + 0) d
  let g3 := upd g2 (10 + 4 * (f * 20 + b) + 1) u
  let g4 := upd g3 (10 + 4 * (f * 20 + b) + 2) (g3 2)
  let g5 := upd g4 (10 + 4 * (f * 20 + b) + 3) 0
  let g6 := upd g5 (8 + f) (nI (b + 1))
  tv g6 (en g6 f)
def s_add (g : Nat → Int32) (x d u : Int32) : Int32 × (Nat → Int32) := if isf x = 0 then (-1, g) else if d < 1 then (-2, g) else if 99 < d then (-2, g) else if u < 0 then (-2, g) else if u ≤ 9999 then (if nI (bn g x.toNatClampNeg) < 20 then (if g 1 ≤ gp g - (d + 2 * g 2) then (nI (bn g x.toNatClampNeg), s_wr g x.toNatClampNeg (bn g x.toNatClampNeg) d u) else (-5, g)) else (-4, g)) else (-2, g)
def s_cut (g : Nat → Int32) (x y : Int32) : Int32 × (Nat → Int32) := if isf x = 0 then (-1, g) else if 0 ≤ y then (if y ≤ nI (bn g x.toNatClampNeg) then (nI (bn g x.toNatClampNeg) - y, upd g (8 + x.toNatClampNeg) y) else (-5, g)) else (-2, g)
def s_mov (g : Nat → Int32) (x : Int32) : Int32 × (Nat → Int32) := if x < 0 then (-2, g) else if x ≤ g 0 then (ab (x - g 3), tv g x) else (-2, g)
def s_rew (g : Nat → Int32) : Int32 × (Nat → Int32) := if g 0 - g 3 < g 3 then ((tv g (g 0)) 3, tv g (g 0)) else ((tv g 0) 3, tv g 0)
def rem10 (z : Int32) : Int32 := z - z / 10 * 10
def s_rv (g : Nat → Int32) (f b w : Nat) : Int32 × (Nat → Int32) :=
  let g1 := tv g (sr g f b w)
  let g2 := tv g1 (sr g1 f b (1 - w))
  let g3 := upd g2 (10 + 4 * (f * 20 + b) + 3) (g2 (10 + 4 * (f * 20 + b) + 3) + 1)
  let g4 := upd g3 7 (g3 7 + 1)
  (rem10 (g4 (10 + 4 * (f * 20 + b) + 1) + nI b + nI w), g4)
def s_rd (g : Nat → Int32) (x y z : Int32) : Int32 × (Nat → Int32) := if ibk g x y = 0 then (-1, g) else if z = 0 then s_rv g x.toNatClampNeg y.toNatClampNeg 0 else if z = 1 then s_rv g x.toNatClampNeg y.toNatClampNeg 1 else (-2, g)
def s_sv (g : Nat → Int32) (x o : Int32) : Int32 × (Nat → Int32) :=
  let g3 := upd g 0 (g 0 - o)
  let g4 := upd g3 3 (g3 3 - mx2 0 (mn2 o (g3 3 - x)))
  let g5 := upd g4 4 (g4 4 + 1)
  let g6 := upd g5 5 (g5 5 + o)
  (g6 0, g6)
def s_sd (g : Nat → Int32) (r : Nat) (o : Int32) : Nat → Int32 := upd (upd g (10 + 4 * r + 0) (g (10 + 4 * r + 0) - o)) (10 + 4 * r + 1) 0
/-- a splice where it may be: k1, k2: the block keeps data, the gap stays open -/
def s_s2 (g : Nat → Int32) (x o v : Int32) (k1 k2 : Bool) : Int32 × (Nat → Int32) := if k1 = true ∨ k2 = true then (if g 4 < 9 then (if v < 0 then s_sv g x o else s_sv (s_sd g v.toNatClampNeg o) x o) else (-4, g)) else (-5, g)
def s_k1 (g : Nat → Int32) (o v : Int32) : Bool := if v < 0 then false else if g (10 + 4 * v.toNatClampNeg + 0) - o < 1 then false else true
def s_k2 (g : Nat → Int32) (x o : Int32) : Bool := if iig g x (x + o) = 0 then false else if gp g - o < g 1 then false else true
def s_spl (g : Nat → Int32) (x y : Int32) : Int32 × (Nat → Int32) := if x < 0 then (-2, g) else if g 0 ≤ x then (-2, g) else if y < 1 then (-2, g) else if y ≤ 50 then s_s2 g x (y + 1) (rwd g x (x + (y + 1))) (s_k1 g (y + 1) (rwd g x (x + (y + 1)))) (s_k2 g x (y + 1)) else (-2, g)
theorem ibk_of {g : Nat → Int32} {x y : Int32} (h : ¬ ibk g x y = 0) (hB : BN g) : ∃ f b, f < 2 ∧ b < bn g f ∧ x = nI f ∧ y = nI b := by
  unfold ibk at h
  split at h
  · exact absurd rfl h
  · rename_i h1
    obtain ⟨f, hf, rfl⟩ := isf_of h1
    split at h
    · exact absurd rfl h
    · rename_i h2
      split at h
      · exact absurd rfl h
      · rename_i h3
        obtain ⟨j, hj, rfl⟩ := nI_of h2
        rw [nI_clamp (by omega)] at h3
        have hn := (hB f hf).2
        exact ⟨f, j, hf, nle_lt hj (by omega) h3, rfl, rfl⟩
theorem nlt_lt {a b : Nat} (ha : a < 2 ^ 31) (hb : b < 2 ^ 31) (h : nI a < nI b) : a < b := (nI_ltI ha hb).mp h
theorem BN_up {g : Nat → Int32} {k : Nat} {v : Int32} (hk : k < 8 ∨ 10 ≤ k) (h : BN g) : BN (upd g k v) := fun f hf => by
  have e : bn (upd g k v) f = bn g f := by unfold bn; rw [pk_un (by omega)]
  rw [e, pk_un (by omega)]
  exact h f hf
theorem bn_up {g : Nat → Int32} {k f : Nat} {v : Int32} (hf : f < 2) (hk : k < 8 ∨ 10 ≤ k) : bn (upd g k v) f = bn g f := by unfold bn; rw [pk_un (by omega)]
theorem bn_tv {g : Nat → Int32} {f : Nat} {x : Int32} (hf : f < 2) : bn (tv g x) f = bn g f := by unfold tv; rw [bn_up hf (by omega), bn_up hf (by omega)]
theorem BN_tv {g : Nat → Int32} {x : Int32} (h : BN g) : BN (tv g x) := BN_up (by omega) (BN_up (by omega) h)
theorem BN_set {g : Nat → Int32} {f n : Nat} (hf : f < 2) (hn : n ≤ 20) (h : BN g) : BN (upd g (8 + f) (nI n)) := fun j hj => by
  unfold bn
  by_cases e : j = f
  · subst e
    rw [pk_us, nI_clamp (by omega)]
    exact ⟨rfl, hn⟩
  · rw [pk_un (by omega)]
    exact h j hj
theorem rwb_lt {g : Nat → Int32} {x y : Int32} {f : Nat} : ∀ (k b : Nat) {r : Nat}, rwb g x y f k b = some r → ∃ j, b ≤ j ∧ j < b + k ∧ r = f * 20 + j
  | 0, _, _, h => by cases h
  | k + 1, b, r, h => by
    unfold rwb at h
    split at h
    · obtain ⟨j, h1, h2, h3⟩ := rwb_lt k (b + 1) h
      exact ⟨j, by omega, by omega, h3⟩
    · split at h
      · obtain ⟨j, h1, h2, h3⟩ := rwb_lt k (b + 1) h
        exact ⟨j, by omega, by omega, h3⟩
      · cases h
        exact ⟨b, by omega, by omega, rfl⟩
theorem rwq_of {g : Nat → Int32} {x y : Int32} (hB : BN g) : ∀ (k f : Nat), f + k = 2 → rwq g x y k f = -1 ∨ ∃ r, r < 40 ∧ rwq g x y k f = nI r
  | 0, _, _ => Or.inl rfl
  | k + 1, f, hk => by
    unfold rwq
    cases hr : rwb g x y f (bn g f) 0 with
    | none => exact rwq_of hB k (f + 1) (by omega)
    | some r =>
      obtain ⟨j, h1, h2, h3⟩ := rwb_lt _ _ hr
      have hn := (hB f (by omega)).2
      exact Or.inr ⟨r, by omega, rfl⟩
theorem rwd_of {g : Nat → Int32} {x y : Int32} (hB : BN g) (h : ¬ rwd g x y < 0) : ∃ r, r < 40 ∧ rwd g x y = nI r := by
  rcases rwq_of (x := x) (y := y) hB 2 0 rfl with q | q
  · exact absurd (show rwd g x y < 0 by unfold rwd; rw [q]; decide) h
  · exact q
set_option maxHeartbeats 4000000 in
set_option maxRecDepth 100000 in
theorem c_T_isBlock (l : Launch) (D : va_G) (ca : Nat → ClassId) (t : Nat → Nat) (g : Nat → Int32) (x y : Int32) (hB : BN g): RO l y_T_isBlock b_T_isBlock 3 (some .boolean) 1 21 D ca [.ref (t 0), .int x, .int y] (tw ca t g) (ibk g x y) := by
  refine RO.mk (ty := .boolean) rfl rfl (Nat.le_of_ble_eq_true rfl) ?_
  intro p e s m args below meth c Q S hP hK
  obtain ⟨hx, hb, hml, hown, hts⟩ := id S
  intro hret ls hl0
  have hl : lv_has ls 3 [(0, .ref (t 0)), (1, .int x), (2, .int y)] := hl0
  refine lv_aload_n hx hb d_T_isBlock_0 rfl (lv_at hl 0 rfl) ?_
  refine lv_iload_n hx hb d_T_isBlock_1 rfl (lv_at hl 1 rfl) ?_
  refine T_ro0 S (c_T_isFile l D ca (t 0) x ) k_T_71 rfl hP hK rfl rfl hl.1 ⟨Nat.le_of_ble_eq_true rfl, Nat.le_of_ble_eq_true rfl⟩ ⟨Nat.zero_le _, Nat.zero_le _⟩ (Nat.le_of_ble_eq_true rfl) d_T_isBlock_2 ?_
  refine lv_if_eq (tgt := 26) hx hb d_T_isBlock_5 (by decide) (fun c_5 => ?_) (fun c_5 => ?_)
  · refine lv_iconst (v := 0) hx hb d_T_isBlock_26 (by decide) ?_
    exact hret _ _ _ d_T_isBlock_27 rfl (by first | (simp only [ibk, c_5, ↓reduceIte]; done) | (simp only [ibk, c_5, ↓reduceIte]; rfl) | rfl)
  · obtain ⟨f, hf, rfl⟩ := isf_of c_5
    have hcl : (nI f).toNatClampNeg = f := nI_clamp (by omega)
    refine lv_iload_n hx hb d_T_isBlock_8 rfl (lv_at hl 2 rfl) ?_
    refine lv_if_lt (tgt := 26) hx hb d_T_isBlock_9 (by decide) (fun c_9 => ?_) (fun c_9 => ?_)
    · refine lv_iconst (v := 0) hx hb d_T_isBlock_26 (by decide) ?_
      exact hret _ _ _ d_T_isBlock_27 rfl (by first | (simp only [ibk, c_5, hcl, c_9, ↓reduceIte]; done) | (simp only [ibk, c_5, hcl, c_9, ↓reduceIte]; rfl) | rfl)
    · refine lv_iload_n hx hb d_T_isBlock_12 rfl (lv_at hl 2 rfl) ?_
      refine lv_aload_n hx hb d_T_isBlock_13 rfl (lv_at hl 0 rfl) ?_
      refine f_get S cls_T hK hP 0 rfl 8 (by decide) fl_T_blocks rfl rfl d_T_isBlock_14 ?_
      refine lv_iload_n hx hb d_T_isBlock_17 rfl (lv_at hl 1 rfl) ?_
      refine T_bl S hK hP hB (f := f) (by omega) rfl d_T_isBlock_18 ?_
      refine lv_icmp_ge (tgt := 26) hx hb d_T_isBlock_19 (by decide) (fun c_19 => ?_) (fun c_19 => ?_)
      · refine lv_iconst (v := 0) hx hb d_T_isBlock_26 (by decide) ?_
        exact hret _ _ _ d_T_isBlock_27 rfl (by first | (simp only [ibk, c_5, hcl, c_9, c_19, ↓reduceIte]; done) | (simp only [ibk, c_5, hcl, c_9, c_19, ↓reduceIte]; rfl) | rfl)
      · refine lv_iconst (v := 1) hx hb d_T_isBlock_22 (by decide) ?_
        refine lv_goto (tgt := 27) hx hb d_T_isBlock_23 (by decide) ?_
        exact hret _ _ _ d_T_isBlock_27 rfl (by first | (simp only [ibk, c_5, hcl, c_9, c_19, ↓reduceIte]; done) | (simp only [ibk, c_5, hcl, c_9, c_19, ↓reduceIte]; rfl) | rfl)
set_option maxHeartbeats 4000000 in
set_option maxRecDepth 100000 in
theorem c_T_totalOf (l : Launch) (D : va_G) (ca : Nat → ClassId) (t : Nat → Nat) (g : Nat → Int32) (k f : Nat) (hB : BN g) (hf : f < 2) (hk : k < 4): RO l y_T_totalOf b_T_totalOf 5 (some .int) 1 22 D ca [.ref (t 0), .ref (t (2 + k)), .int (nI f)] (tw ca t g) (tot g k f (bn g f)) := by
  refine RO.mk (ty := .int) rfl rfl (Nat.le_of_ble_eq_true rfl) ?_
  intro p e s m args below meth c Q S hP hK
  obtain ⟨hx, hb, hml, hown, hts⟩ := id S
  intro hret ls hl0
  have hl : lv_has ls 5 [(0, .ref (t 0)), (1, .ref (t (2 + k))), (2, .int (nI f))] := hl0
  refine lv_iconst (v := 0) hx hb d_T_totalOf_0 (by decide) ?_
  refine lv_istore_n (lv' := [(3, .int 0), (0, .ref (t 0)), (1, .ref (t (2 + k))), (2, .int (nI f))]) hx hb d_T_totalOf_1 rfl hl (by decide) rfl (fun ls hl => ?_)
  refine lv_iconst (v := 0) hx hb d_T_totalOf_2 (by decide) ?_
  refine lv_istore (lv' := [(4, .int 0), (3, .int 0), (0, .ref (t 0)), (1, .ref (t (2 + k))), (2, .int (nI f))]) hx hb d_T_totalOf_3 hl (by decide) rfl (fun ls hl => ?_)
  have hn := (hB f hf).2
  suffices lp : ∀ (k1 i : Nat), bn g f - i < k1 → i ≤ bn g f → ∀ ls : Array Slot, lv_has ls 5 [(3, .int (tot g k f i)), (4, .int (nI i)), (0, .ref (t 0)), (1, .ref (t (2 + k))), (2, .int (nI f))] → W p l e (rm 1 22 0 0) s m args below meth c s.heap [] 0 0 Q (F0 m 5 ls []) from lp (bn g f + 1) 0 (by omega) (by omega) _ (lv_sub hl [1, 0, 2, 3, 4] rfl)
  intro k1
  induction k1 with
  | zero => intro i hi; omega
  | succ k1 ih =>
    intro i hi hin ls hl
    refine lv_iload hx hb d_T_totalOf_5 (lv_at hl 1 rfl) ?_
    refine lv_aload_n hx hb d_T_totalOf_7 rfl (lv_at hl 2 rfl) ?_
    refine f_get S cls_T hK hP 0 rfl 8 (by decide) fl_T_blocks rfl rfl d_T_totalOf_8 ?_
    refine lv_iload_n hx hb d_T_totalOf_11 rfl (lv_at hl 4 rfl) ?_
    refine T_bl S hK hP hB (f := f) (by omega) rfl d_T_totalOf_12 ?_
    refine lv_icmp_ge (tgt := 34) hx hb d_T_totalOf_13 (by decide) (fun c_13 => ?_) (fun c_13 => ?_)
    · have e_8 : bn g f ≤ i := le_of_nI (by omega) (by omega) c_13
      obtain rfl : i = bn g f := by omega
      refine lv_iload_n hx hb d_T_totalOf_34 rfl (lv_at hl 0 rfl) ?_
      exact hret _ _ _ d_T_totalOf_35 rfl (by first | (simp only [tot, c_13, ↓reduceIte]; done) | (simp only [tot, c_13, ↓reduceIte]; rfl) | rfl)
    · have e_8 : i < bn g f := nle_lt (by omega) (by omega) c_13
      refine lv_iload_n hx hb d_T_totalOf_16 rfl (lv_at hl 0 rfl) ?_
      refine lv_aload_n hx hb d_T_totalOf_17 rfl (lv_at hl 3 rfl) ?_
      refine lv_aload_n hx hb d_T_totalOf_18 rfl (lv_at hl 2 rfl) ?_
      refine lv_iload_n hx hb d_T_totalOf_19 rfl (lv_at hl 4 rfl) ?_
      refine lv_iload hx hb d_T_totalOf_20 (lv_at hl 1 rfl) ?_
      refine T_ro0 S (c_T_rowOf l D ca (t 0) f i ) k_T_82 rfl hP hK rfl rfl hl.1 ⟨Nat.le_of_ble_eq_true rfl, Nat.le_of_ble_eq_true rfl⟩ ⟨Nat.zero_le _, Nat.zero_le _⟩ (Nat.le_of_ble_eq_true rfl) d_T_totalOf_22 ?_
      refine T_ar k hk S hK hP (r := f * 20 + i) (by omega) rfl d_T_totalOf_25 ?_
      refine lv_iadd hx hb d_T_totalOf_26 ?_
      refine lv_istore_n (lv' := [(3, .int (tot g k f (i + 1))), (4, .int (nI i)), (0, .ref (t 0)), (1, .ref (t (2 + k))), (2, .int (nI f))]) hx hb d_T_totalOf_27 rfl hl (by decide) rfl (fun ls hl => ?_)
      refine lv_iinc (v := nI (i + 1)) (lv' := [(4, .int (nI (i + 1))), (3, .int (tot g k f (i + 1))), (0, .ref (t 0)), (1, .ref (t (2 + k))), (2, .int (nI f))]) hx hb d_T_totalOf_28 hl (k := 1) rfl (nI_1 i) (by decide) rfl (fun ls hl => ?_)
      refine lv_goto (tgt := 5) hx hb d_T_totalOf_31 (by decide) ?_
      exact ih (i + 1) (by omega) (by omega) _ (lv_sub hl [1, 0, 2, 3, 4] rfl)
set_option maxHeartbeats 4000000 in
set_option maxRecDepth 100000 in
theorem c_T_aboutTape (l : Launch) (D : va_G) (ca : Nat → ClassId) (t : Nat → Nat) (g : Nat → Int32) (x : Int32) (hB : BN g): RO l y_T_aboutTape b_T_aboutTape 2 (some .int) 3 66 D ca [.ref (t 0), .int x] (tw ca t g) (atp g x) := by
  refine RO.mk (ty := .int) rfl rfl (Nat.le_of_ble_eq_true rfl) ?_
  intro p e s m args below meth c Q S hP hK
  obtain ⟨hx, hb, hml, hown, hts⟩ := id S
  intro hret ls hl0
  have hl : lv_has ls 2 [(0, .ref (t 0)), (1, .int x)] := hl0
  refine lv_iload_n hx hb d_T_aboutTape_0 rfl (lv_at hl 1 rfl) ?_
  by_cases hsw : 0 ≤ x.toInt ∧ x.toInt ≤ 9
  · have hcs : x.toInt = 0 ∨ x.toInt = 1 ∨ x.toInt = 2 ∨ x.toInt = 3 ∨ x.toInt = 4 ∨ x.toInt = 5 ∨ x.toInt = 6 ∨ x.toInt = 7 ∨ x.toInt = 8 ∨ x.toInt = 9 := by omega
    rcases hcs with hk | hk | hk | hk | hk | hk | hk | hk | hk | hk
    · have hk2 : x = 0 := Int32.toInt_inj.mp (by rw [hk]; decide)
      subst hk2
      refine lv_tableIn (tgt := 56) (off := 55) hx hb d_T_aboutTape_1 (by rw [hk]; decide) (by rw [hk]; decide) (by rw [hk]; rfl) (by decide) ?_
      refine lv_aload_n hx hb d_T_aboutTape_56 rfl (lv_at hl 0 rfl) ?_
      refine f_get S cls_T hK hP 0 rfl 0 (by decide) fl_T_feet rfl rfl d_T_aboutTape_57 ?_
      exact hret _ _ _ d_T_aboutTape_60 rfl (by first | (simp only [atp, ↓reduceIte]; done) | (simp only [atp, ↓reduceIte]; rfl) | rfl)
    · have hk2 : x = 1 := Int32.toInt_inj.mp (by rw [hk]; decide)
      subst hk2
      refine lv_tableIn (tgt := 61) (off := 60) hx hb d_T_aboutTape_1 (by rw [hk]; decide) (by rw [hk]; decide) (by rw [hk]; rfl) (by decide) ?_
      refine lv_aload_n hx hb d_T_aboutTape_61 rfl (lv_at hl 0 rfl) ?_
      refine f_get S cls_T hK hP 0 rfl 1 (by decide) fl_T_leastGap rfl rfl d_T_aboutTape_62 ?_
      exact hret _ _ _ d_T_aboutTape_65 rfl (by first | (simp only [atp, ↓reduceIte]; done) | (simp only [atp, ↓reduceIte]; rfl) | rfl)
    · have hk2 : x = 2 := Int32.toInt_inj.mp (by rw [hk]; decide)
      subst hk2
      refine lv_tableIn (tgt := 66) (off := 65) hx hb d_T_aboutTape_1 (by rw [hk]; decide) (by rw [hk]; decide) (by rw [hk]; rfl) (by decide) ?_
      refine lv_aload_n hx hb d_T_aboutTape_66 rfl (lv_at hl 0 rfl) ?_
      refine f_get S cls_T hK hP 0 rfl 2 (by decide) fl_T_mark rfl rfl d_T_aboutTape_67 ?_
      exact hret _ _ _ d_T_aboutTape_70 rfl (by first | (simp only [atp, ↓reduceIte]; done) | (simp only [atp, ↓reduceIte]; rfl) | rfl)
    · have hk2 : x = 3 := Int32.toInt_inj.mp (by rw [hk]; decide)
      subst hk2
      refine lv_tableIn (tgt := 71) (off := 70) hx hb d_T_aboutTape_1 (by rw [hk]; decide) (by rw [hk]; decide) (by rw [hk]; rfl) (by decide) ?_
      refine lv_aload_n hx hb d_T_aboutTape_71 rfl (lv_at hl 0 rfl) ?_
      refine f_get S cls_T hK hP 0 rfl 3 (by decide) fl_T_head rfl rfl d_T_aboutTape_72 ?_
      exact hret _ _ _ d_T_aboutTape_75 rfl (by first | (simp only [atp, ↓reduceIte]; done) | (simp only [atp, ↓reduceIte]; rfl) | rfl)
    · have hk2 : x = 4 := Int32.toInt_inj.mp (by rw [hk]; decide)
      subst hk2
      refine lv_tableIn (tgt := 76) (off := 75) hx hb d_T_aboutTape_1 (by rw [hk]; decide) (by rw [hk]; decide) (by rw [hk]; rfl) (by decide) ?_
      refine lv_aload_n hx hb d_T_aboutTape_76 rfl (lv_at hl 0 rfl) ?_
      refine T_ro S (c_T_gap l D ca t g  hB) k_T_68 rfl hP hK rfl rfl hl.1 ⟨Nat.le_of_ble_eq_true rfl, Nat.le_of_ble_eq_true rfl⟩ ⟨Nat.zero_le _, Nat.zero_le _⟩ (Nat.le_of_ble_eq_true rfl) d_T_aboutTape_77 ?_
      exact hret _ _ _ d_T_aboutTape_80 rfl (by first | (simp only [atp, ↓reduceIte]; done) | (simp only [atp, ↓reduceIte]; rfl) | rfl)
    · have hk2 : x = 5 := Int32.toInt_inj.mp (by rw [hk]; decide)
      subst hk2
      refine lv_tableIn (tgt := 81) (off := 80) hx hb d_T_aboutTape_1 (by rw [hk]; decide) (by rw [hk]; decide) (by rw [hk]; rfl) (by decide) ?_
      refine lv_aload_n hx hb d_T_aboutTape_81 rfl (lv_at hl 0 rfl) ?_
      refine T_ro S (c_T_allBlocks l D ca t g  hB) k_T_58 rfl hP hK rfl rfl hl.1 ⟨Nat.le_of_ble_eq_true rfl, Nat.le_of_ble_eq_true rfl⟩ ⟨Nat.zero_le _, Nat.zero_le _⟩ (Nat.le_of_ble_eq_true rfl) d_T_aboutTape_82 ?_
      exact hret _ _ _ d_T_aboutTape_85 rfl (by first | (simp only [atp, ↓reduceIte]; done) | (simp only [atp, ↓reduceIte]; rfl) | rfl)
    · have hk2 : x = 6 := Int32.toInt_inj.mp (by rw [hk]; decide)
      subst hk2
      refine lv_tableIn (tgt := 86) (off := 85) hx hb d_T_aboutTape_1 (by rw [hk]; decide) (by rw [hk]; decide) (by rw [hk]; rfl) (by decide) ?_
      refine lv_aload_n hx hb d_T_aboutTape_86 rfl (lv_at hl 0 rfl) ?_
      refine f_get S cls_T hK hP 0 rfl 4 (by decide) fl_T_splices rfl rfl d_T_aboutTape_87 ?_
      exact hret _ _ _ d_T_aboutTape_90 rfl (by first | (simp only [atp, ↓reduceIte]; done) | (simp only [atp, ↓reduceIte]; rfl) | rfl)
    · have hk2 : x = 7 := Int32.toInt_inj.mp (by rw [hk]; decide)
      subst hk2
      refine lv_tableIn (tgt := 91) (off := 90) hx hb d_T_aboutTape_1 (by rw [hk]; decide) (by rw [hk]; decide) (by rw [hk]; rfl) (by decide) ?_
      refine lv_aload_n hx hb d_T_aboutTape_91 rfl (lv_at hl 0 rfl) ?_
      refine f_get S cls_T hK hP 0 rfl 5 (by decide) fl_T_feetTakenOut rfl rfl d_T_aboutTape_92 ?_
      exact hret _ _ _ d_T_aboutTape_95 rfl (by first | (simp only [atp, ↓reduceIte]; done) | (simp only [atp, ↓reduceIte]; rfl) | rfl)
    · have hk2 : x = 8 := Int32.toInt_inj.mp (by rw [hk]; decide)
      subst hk2
      refine lv_tableIn (tgt := 96) (off := 95) hx hb d_T_aboutTape_1 (by rw [hk]; decide) (by rw [hk]; decide) (by rw [hk]; rfl) (by decide) ?_
      refine lv_aload_n hx hb d_T_aboutTape_96 rfl (lv_at hl 0 rfl) ?_
      refine f_get S cls_T hK hP 0 rfl 6 (by decide) fl_T_travel rfl rfl d_T_aboutTape_97 ?_
      exact hret _ _ _ d_T_aboutTape_100 rfl (by first | (simp only [atp, ↓reduceIte]; done) | (simp only [atp, ↓reduceIte]; rfl) | rfl)
    · have hk2 : x = 9 := Int32.toInt_inj.mp (by rw [hk]; decide)
      subst hk2
      refine lv_tableIn (tgt := 101) (off := 100) hx hb d_T_aboutTape_1 (by rw [hk]; decide) (by rw [hk]; decide) (by rw [hk]; rfl) (by decide) ?_
      refine lv_aload_n hx hb d_T_aboutTape_101 rfl (lv_at hl 0 rfl) ?_
      refine f_get S cls_T hK hP 0 rfl 7 (by decide) fl_T_blocksRead rfl rfl d_T_aboutTape_102 ?_
      exact hret _ _ _ d_T_aboutTape_105 rfl (by first | (simp only [atp, ↓reduceIte]; done) | (simp only [atp, ↓reduceIte]; rfl) | rfl)
  · have hn_0 : ¬ x = 0 := fun q => hsw (by rw [q]; decide)
    have hn_1 : ¬ x = 1 := fun q => hsw (by rw [q]; decide)
    have hn_2 : ¬ x = 2 := fun q => hsw (by rw [q]; decide)
    have hn_3 : ¬ x = 3 := fun q => hsw (by rw [q]; decide)
    have hn_4 : ¬ x = 4 := fun q => hsw (by rw [q]; decide)
    have hn_5 : ¬ x = 5 := fun q => hsw (by rw [q]; decide)
    have hn_6 : ¬ x = 6 := fun q => hsw (by rw [q]; decide)
    have hn_7 : ¬ x = 7 := fun q => hsw (by rw [q]; decide)
    have hn_8 : ¬ x = 8 := fun q => hsw (by rw [q]; decide)
    have hn_9 : ¬ x = 9 := fun q => hsw (by rw [q]; decide)
    refine lv_tableOut (tgt := 106) hx hb d_T_aboutTape_1 (by omega) (by decide) ?_
    refine lv_bipush (v := (-2)) hx hb d_T_aboutTape_106 (by decide) ?_
    exact hret _ _ _ d_T_aboutTape_108 rfl (by first | (simp only [atp, hn_0, hn_1, hn_2, hn_3, hn_4, hn_5, hn_6, hn_7, hn_8, hn_9, ↓reduceIte]; done) | (simp only [atp, hn_0, hn_1, hn_2, hn_3, hn_4, hn_5, hn_6, hn_7, hn_8, hn_9, ↓reduceIte]; rfl) | rfl)
set_option maxHeartbeats 4000000 in
set_option maxRecDepth 100000 in
theorem c_T_aboutFile (l : Launch) (D : va_G) (ca : Nat → ClassId) (t : Nat → Nat) (g : Nat → Int32) (x y : Int32) (hB : BN g): RO l y_T_aboutFile b_T_aboutFile 3 (some .int) 3 68 D ca [.ref (t 0), .int x, .int y] (tw ca t g) (afl g x y) := by
  refine RO.mk (ty := .int) rfl rfl (Nat.le_of_ble_eq_true rfl) ?_
  intro p e s m args below meth c Q S hP hK
  obtain ⟨hx, hb, hml, hown, hts⟩ := id S
  intro hret ls hl0
  have hl : lv_has ls 3 [(0, .ref (t 0)), (1, .int x), (2, .int y)] := hl0
  refine lv_aload_n hx hb d_T_aboutFile_0 rfl (lv_at hl 0 rfl) ?_
  refine lv_iload_n hx hb d_T_aboutFile_1 rfl (lv_at hl 1 rfl) ?_
  refine T_ro0 S (c_T_isFile l D ca (t 0) x ) k_T_71 rfl hP hK rfl rfl hl.1 ⟨Nat.le_of_ble_eq_true rfl, Nat.le_of_ble_eq_true rfl⟩ ⟨Nat.zero_le _, Nat.zero_le _⟩ (Nat.le_of_ble_eq_true rfl) d_T_aboutFile_2 ?_
  refine lv_if_ne (tgt := 10) hx hb d_T_aboutFile_5 (by decide) (fun c_5 => ?_) (fun c_5 => ?_)
  · obtain ⟨f, hf, rfl⟩ := isf_of c_5
    have hcl : (nI f).toNatClampNeg = f := nI_clamp (by omega)
    refine lv_iload_n hx hb d_T_aboutFile_10 rfl (lv_at hl 2 rfl) ?_
    by_cases hsw : 0 ≤ y.toInt ∧ y.toInt ≤ 4
    · have hcs : y.toInt = 0 ∨ y.toInt = 1 ∨ y.toInt = 2 ∨ y.toInt = 3 ∨ y.toInt = 4 := by omega
      rcases hcs with hk | hk | hk | hk | hk
      · have hk2 : y = 0 := Int32.toInt_inj.mp (by rw [hk]; decide)
        subst hk2
        refine lv_tableIn (tgt := 44) (off := 33) hx hb d_T_aboutFile_11 (by rw [hk]; decide) (by rw [hk]; decide) (by rw [hk]; rfl) (by decide) ?_
        refine lv_aload_n hx hb d_T_aboutFile_44 rfl (lv_at hl 0 rfl) ?_
        refine f_get S cls_T hK hP 0 rfl 8 (by decide) fl_T_blocks rfl rfl d_T_aboutFile_45 ?_
        refine lv_iload_n hx hb d_T_aboutFile_48 rfl (lv_at hl 1 rfl) ?_
        refine T_bl S hK hP hB (f := f) (by omega) rfl d_T_aboutFile_49 ?_
        exact hret _ _ _ d_T_aboutFile_50 rfl (by first | (simp only [afl, afv, c_5, hcl, ↓reduceIte]; done) | (simp only [afl, afv, c_5, hcl, ↓reduceIte]; rfl) | rfl)
      · have hk2 : y = 1 := Int32.toInt_inj.mp (by rw [hk]; decide)
        subst hk2
        refine lv_tableIn (tgt := 51) (off := 40) hx hb d_T_aboutFile_11 (by rw [hk]; decide) (by rw [hk]; decide) (by rw [hk]; rfl) (by decide) ?_
        refine lv_aload_n hx hb d_T_aboutFile_51 rfl (lv_at hl 0 rfl) ?_
        refine lv_iload_n hx hb d_T_aboutFile_52 rfl (lv_at hl 1 rfl) ?_
        refine lv_aload_n hx hb d_T_aboutFile_53 rfl (lv_at hl 0 rfl) ?_
        refine f_get S cls_T hK hP 0 rfl 8 (by decide) fl_T_blocks rfl rfl d_T_aboutFile_54 ?_
        refine lv_iload_n hx hb d_T_aboutFile_57 rfl (lv_at hl 1 rfl) ?_
        refine T_bl S hK hP hB (f := f) (by omega) rfl d_T_aboutFile_58 ?_
        have hn := (hB f hf).2
        refine T_ro S (c_T_feetOfFirst l D ca t g f (bn g f) (by omega) (by omega)) k_T_106 rfl hP hK rfl rfl hl.1 ⟨Nat.le_of_ble_eq_true rfl, Nat.le_of_ble_eq_true rfl⟩ ⟨Nat.zero_le _, Nat.zero_le _⟩ (Nat.le_of_ble_eq_true rfl) d_T_aboutFile_59 ?_
        exact hret _ _ _ d_T_aboutFile_62 rfl (by first | (simp only [afl, afv, c_5, hcl, ↓reduceIte]; done) | (simp only [afl, afv, c_5, hcl, ↓reduceIte]; rfl) | rfl)
      · have hk2 : y = 2 := Int32.toInt_inj.mp (by rw [hk]; decide)
        subst hk2
        refine lv_tableIn (tgt := 63) (off := 52) hx hb d_T_aboutFile_11 (by rw [hk]; decide) (by rw [hk]; decide) (by rw [hk]; rfl) (by decide) ?_
        refine lv_aload_n hx hb d_T_aboutFile_63 rfl (lv_at hl 0 rfl) ?_
        refine lv_aload_n hx hb d_T_aboutFile_64 rfl (lv_at hl 0 rfl) ?_
        refine f_get S cls_T hK hP 0 rfl 9 (by decide) fl_T_data rfl rfl d_T_aboutFile_65 ?_
        refine lv_iload_n hx hb d_T_aboutFile_68 rfl (lv_at hl 1 rfl) ?_
        refine T_ro S (c_T_totalOf l D ca t g 0 f hB (by omega) (by omega)) k_T_109 rfl hP hK rfl rfl hl.1 ⟨Nat.le_of_ble_eq_true rfl, Nat.le_of_ble_eq_true rfl⟩ ⟨Nat.zero_le _, Nat.zero_le _⟩ (Nat.le_of_ble_eq_true rfl) d_T_aboutFile_69 ?_
        exact hret _ _ _ d_T_aboutFile_72 rfl (by first | (simp only [afl, afv, c_5, hcl, ↓reduceIte]; done) | (simp only [afl, afv, c_5, hcl, ↓reduceIte]; rfl) | rfl)
      · have hk2 : y = 3 := Int32.toInt_inj.mp (by rw [hk]; decide)
        subst hk2
        refine lv_tableIn (tgt := 73) (off := 62) hx hb d_T_aboutFile_11 (by rw [hk]; decide) (by rw [hk]; decide) (by rw [hk]; rfl) (by decide) ?_
        refine lv_aload_n hx hb d_T_aboutFile_73 rfl (lv_at hl 0 rfl) ?_
        refine lv_iload_n hx hb d_T_aboutFile_74 rfl (lv_at hl 1 rfl) ?_
        refine T_ro S (c_T_endInGap l D ca t g f hB (by omega)) k_T_75 rfl hP hK rfl rfl hl.1 ⟨Nat.le_of_ble_eq_true rfl, Nat.le_of_ble_eq_true rfl⟩ ⟨Nat.zero_le _, Nat.zero_le _⟩ (Nat.le_of_ble_eq_true rfl) d_T_aboutFile_75 ?_
        exact hret _ _ _ d_T_aboutFile_78 rfl (by first | (simp only [afl, afv, c_5, hcl, ↓reduceIte]; done) | (simp only [afl, afv, c_5, hcl, ↓reduceIte]; rfl) | rfl)
      · have hk2 : y = 4 := Int32.toInt_inj.mp (by rw [hk]; decide)
        subst hk2
        refine lv_tableIn (tgt := 79) (off := 68) hx hb d_T_aboutFile_11 (by rw [hk]; decide) (by rw [hk]; decide) (by rw [hk]; rfl) (by decide) ?_
        refine lv_aload_n hx hb d_T_aboutFile_79 rfl (lv_at hl 0 rfl) ?_
        refine lv_aload_n hx hb d_T_aboutFile_80 rfl (lv_at hl 0 rfl) ?_
        refine f_get S cls_T hK hP 0 rfl 10 (by decide) fl_T_sums rfl rfl d_T_aboutFile_81 ?_
        refine lv_iload_n hx hb d_T_aboutFile_84 rfl (lv_at hl 1 rfl) ?_
        refine T_ro S (c_T_totalOf l D ca t g 1 f hB (by omega) (by omega)) k_T_109 rfl hP hK rfl rfl hl.1 ⟨Nat.le_of_ble_eq_true rfl, Nat.le_of_ble_eq_true rfl⟩ ⟨Nat.zero_le _, Nat.zero_le _⟩ (Nat.le_of_ble_eq_true rfl) d_T_aboutFile_85 ?_
        exact hret _ _ _ d_T_aboutFile_88 rfl (by first | (simp only [afl, afv, c_5, hcl, ↓reduceIte]; done) | (simp only [afl, afv, c_5, hcl, ↓reduceIte]; rfl) | rfl)
    · have hn_0 : ¬ y = 0 := fun q => hsw (by rw [q]; decide)
      have hn_1 : ¬ y = 1 := fun q => hsw (by rw [q]; decide)
      have hn_2 : ¬ y = 2 := fun q => hsw (by rw [q]; decide)
      have hn_3 : ¬ y = 3 := fun q => hsw (by rw [q]; decide)
      have hn_4 : ¬ y = 4 := fun q => hsw (by rw [q]; decide)
      refine lv_tableOut (tgt := 89) hx hb d_T_aboutFile_11 (by omega) (by decide) ?_
      refine lv_bipush (v := (-2)) hx hb d_T_aboutFile_89 (by decide) ?_
      exact hret _ _ _ d_T_aboutFile_91 rfl (by first | (simp only [afl, afv, c_5, hcl, hn_0, hn_1, hn_2, hn_3, hn_4, ↓reduceIte]; done) | (simp only [afl, afv, c_5, hcl, hn_0, hn_1, hn_2, hn_3, hn_4, ↓reduceIte]; rfl) | rfl)
  · refine lv_iconst (v := (-1)) hx hb d_T_aboutFile_8 (by decide) ?_
    exact hret _ _ _ d_T_aboutFile_9 rfl (by first | (simp only [afl, afv, c_5, ↓reduceIte]; done) | (simp only [afl, afv, c_5, ↓reduceIte]; rfl) | rfl)
set_option maxHeartbeats 4000000 in
set_option maxRecDepth 100000 in
theorem c_T_aboutBlock (l : Launch) (D : va_G) (ca : Nat → ClassId) (t : Nat → Nat) (g : Nat → Int32) (x y z : Int32) (hB : BN g): RO l y_T_aboutBlock b_T_aboutBlock 5 (some .int) 5 115 D ca [.ref (t 0), .int x, .int y, .int z] (tw ca t g) (abl g x y z) := by
  refine RO.mk (ty := .int) rfl rfl (Nat.le_of_ble_eq_true rfl) ?_
  intro p e s m args below meth c Q S hP hK
  obtain ⟨hx, hb, hml, hown, hts⟩ := id S
  intro hret ls hl0
  have hl : lv_has ls 5 [(0, .ref (t 0)), (1, .int x), (2, .int y), (3, .int z)] := hl0
  refine lv_aload_n hx hb d_T_aboutBlock_0 rfl (lv_at hl 0 rfl) ?_
  refine lv_iload_n hx hb d_T_aboutBlock_1 rfl (lv_at hl 1 rfl) ?_
  refine lv_iload_n hx hb d_T_aboutBlock_2 rfl (lv_at hl 2 rfl) ?_
  refine T_ro S (c_T_isBlock l D ca t g x y hB) k_T_85 rfl hP hK rfl rfl hl.1 ⟨Nat.le_of_ble_eq_true rfl, Nat.le_of_ble_eq_true rfl⟩ ⟨Nat.zero_le _, Nat.zero_le _⟩ (Nat.le_of_ble_eq_true rfl) d_T_aboutBlock_3 ?_
  refine lv_if_ne (tgt := 11) hx hb d_T_aboutBlock_6 (by decide) (fun c_6 => ?_) (fun c_6 => ?_)
  · obtain ⟨f, b, hf, hbn, rfl, rfl⟩ := ibk_of c_6 hB
    have hcl : (nI f).toNatClampNeg = f := nI_clamp (by omega)
    have hn20 := (hB f hf).2
    have hcb : (nI b).toNatClampNeg = b := nI_clamp (by omega)
    refine lv_aload_n hx hb d_T_aboutBlock_11 rfl (lv_at hl 0 rfl) ?_
    refine lv_iload_n hx hb d_T_aboutBlock_12 rfl (lv_at hl 1 rfl) ?_
    refine lv_iload_n hx hb d_T_aboutBlock_13 rfl (lv_at hl 2 rfl) ?_
    refine T_ro0 S (c_T_rowOf l D ca (t 0) f b ) k_T_82 rfl hP hK rfl rfl hl.1 ⟨Nat.le_of_ble_eq_true rfl, Nat.le_of_ble_eq_true rfl⟩ ⟨Nat.zero_le _, Nat.zero_le _⟩ (Nat.le_of_ble_eq_true rfl) d_T_aboutBlock_14 ?_
    refine lv_istore (lv' := [(4, .int (nI (f * 20 + b))), (0, .ref (t 0)), (1, .int (nI f)), (2, .int (nI b)), (3, .int z)]) hx hb d_T_aboutBlock_17 hl (by decide) rfl (fun ls hl => ?_)
    refine lv_iload_n hx hb d_T_aboutBlock_19 rfl (lv_at hl 4 rfl) ?_
    by_cases hsw : 0 ≤ z.toInt ∧ z.toInt ≤ 7
    · have hcs : z.toInt = 0 ∨ z.toInt = 1 ∨ z.toInt = 2 ∨ z.toInt = 3 ∨ z.toInt = 4 ∨ z.toInt = 5 ∨ z.toInt = 6 ∨ z.toInt = 7 := by omega
      rcases hcs with hk | hk | hk | hk | hk | hk | hk | hk
      · have hk2 : z = 0 := Int32.toInt_inj.mp (by rw [hk]; decide)
        subst hk2
        refine lv_tableIn (tgt := 68) (off := 48) hx hb d_T_aboutBlock_20 (by rw [hk]; decide) (by rw [hk]; decide) (by rw [hk]; rfl) (by decide) ?_
        refine lv_aload_n hx hb d_T_aboutBlock_68 rfl (lv_at hl 1 rfl) ?_
        refine f_get S cls_T hK hP 0 rfl 9 (by decide) fl_T_data rfl rfl d_T_aboutBlock_69 ?_
        refine lv_iload hx hb d_T_aboutBlock_72 (lv_at hl 0 rfl) ?_
        refine T_ar 0 (by decide) S hK hP (r := f * 20 + b) (by omega) rfl d_T_aboutBlock_74 ?_
        exact hret _ _ _ d_T_aboutBlock_75 rfl (by first | (simp only [abl, abv, c_6, hcl, hcb, ↓reduceIte]; done) | (simp only [abl, abv, c_6, hcl, hcb, ↓reduceIte]; rfl) | rfl)
      · have hk2 : z = 1 := Int32.toInt_inj.mp (by rw [hk]; decide)
        subst hk2
        refine lv_tableIn (tgt := 76) (off := 56) hx hb d_T_aboutBlock_20 (by rw [hk]; decide) (by rw [hk]; decide) (by rw [hk]; rfl) (by decide) ?_
        refine lv_aload_n hx hb d_T_aboutBlock_76 rfl (lv_at hl 1 rfl) ?_
        refine f_get S cls_T hK hP 0 rfl 10 (by decide) fl_T_sums rfl rfl d_T_aboutBlock_77 ?_
        refine lv_iload hx hb d_T_aboutBlock_80 (lv_at hl 0 rfl) ?_
        refine T_ar 1 (by decide) S hK hP (r := f * 20 + b) (by omega) rfl d_T_aboutBlock_82 ?_
        exact hret _ _ _ d_T_aboutBlock_83 rfl (by first | (simp only [abl, abv, c_6, hcl, hcb, ↓reduceIte]; done) | (simp only [abl, abv, c_6, hcl, hcb, ↓reduceIte]; rfl) | rfl)
      · have hk2 : z = 2 := Int32.toInt_inj.mp (by rw [hk]; decide)
        subst hk2
        refine lv_tableIn (tgt := 84) (off := 64) hx hb d_T_aboutBlock_20 (by rw [hk]; decide) (by rw [hk]; decide) (by rw [hk]; rfl) (by decide) ?_
        refine lv_aload_n hx hb d_T_aboutBlock_84 rfl (lv_at hl 1 rfl) ?_
        refine lv_iload hx hb d_T_aboutBlock_85 (lv_at hl 0 rfl) ?_
        refine T_ro S (c_T_wholeLength l D ca t g (f * 20 + b) (by omega)) k_T_113 rfl hP hK rfl rfl hl.1 ⟨Nat.le_of_ble_eq_true rfl, Nat.le_of_ble_eq_true rfl⟩ ⟨Nat.zero_le _, Nat.zero_le _⟩ (Nat.le_of_ble_eq_true rfl) d_T_aboutBlock_87 ?_
        exact hret _ _ _ d_T_aboutBlock_90 rfl (by first | (simp only [abl, abv, c_6, hcl, hcb, ↓reduceIte]; done) | (simp only [abl, abv, c_6, hcl, hcb, ↓reduceIte]; rfl) | rfl)
      · have hk2 : z = 3 := Int32.toInt_inj.mp (by rw [hk]; decide)
        subst hk2
        refine lv_tableIn (tgt := 91) (off := 71) hx hb d_T_aboutBlock_20 (by rw [hk]; decide) (by rw [hk]; decide) (by rw [hk]; rfl) (by decide) ?_
        refine lv_aload_n hx hb d_T_aboutBlock_91 rfl (lv_at hl 1 rfl) ?_
        refine lv_iload_n hx hb d_T_aboutBlock_92 rfl (lv_at hl 2 rfl) ?_
        refine lv_iload_n hx hb d_T_aboutBlock_93 rfl (lv_at hl 3 rfl) ?_
        refine T_ro S (c_T_lowerEnd l D ca t g f b (by omega) (by omega)) k_T_116 rfl hP hK rfl rfl hl.1 ⟨Nat.le_of_ble_eq_true rfl, Nat.le_of_ble_eq_true rfl⟩ ⟨Nat.zero_le _, Nat.zero_le _⟩ (Nat.le_of_ble_eq_true rfl) d_T_aboutBlock_94 ?_
        exact hret _ _ _ d_T_aboutBlock_97 rfl (by first | (simp only [abl, abv, c_6, hcl, hcb, ↓reduceIte]; done) | (simp only [abl, abv, c_6, hcl, hcb, ↓reduceIte]; rfl) | rfl)
      · have hk2 : z = 4 := Int32.toInt_inj.mp (by rw [hk]; decide)
        subst hk2
        refine lv_tableIn (tgt := 98) (off := 78) hx hb d_T_aboutBlock_20 (by rw [hk]; decide) (by rw [hk]; decide) (by rw [hk]; rfl) (by decide) ?_
        refine lv_aload_n hx hb d_T_aboutBlock_98 rfl (lv_at hl 1 rfl) ?_
        refine lv_iload_n hx hb d_T_aboutBlock_99 rfl (lv_at hl 2 rfl) ?_
        refine lv_iload_n hx hb d_T_aboutBlock_100 rfl (lv_at hl 3 rfl) ?_
        refine T_ro S (c_T_lowerEnd l D ca t g f b (by omega) (by omega)) k_T_116 rfl hP hK rfl rfl hl.1 ⟨Nat.le_of_ble_eq_true rfl, Nat.le_of_ble_eq_true rfl⟩ ⟨Nat.zero_le _, Nat.zero_le _⟩ (Nat.le_of_ble_eq_true rfl) d_T_aboutBlock_101 ?_
        refine lv_aload_n hx hb d_T_aboutBlock_104 rfl (lv_at hl 1 rfl) ?_
        refine lv_iload hx hb d_T_aboutBlock_105 (lv_at hl 0 rfl) ?_
        refine T_ro S (c_T_wholeLength l D ca t g (f * 20 + b) (by omega)) k_T_113 rfl hP hK rfl rfl hl.1 ⟨Nat.le_of_ble_eq_true rfl, Nat.le_of_ble_eq_true rfl⟩ ⟨Nat.zero_le _, Nat.zero_le _⟩ (Nat.le_of_ble_eq_true rfl) d_T_aboutBlock_107 ?_
        refine lv_iadd hx hb d_T_aboutBlock_110 ?_
        exact hret _ _ _ d_T_aboutBlock_111 rfl (by first | (simp only [abl, abv, c_6, hcl, hcb, ↓reduceIte]; done) | (simp only [abl, abv, c_6, hcl, hcb, ↓reduceIte]; rfl) | rfl)
      · have hk2 : z = 5 := Int32.toInt_inj.mp (by rw [hk]; decide)
        subst hk2
        refine lv_tableIn (tgt := 112) (off := 92) hx hb d_T_aboutBlock_20 (by rw [hk]; decide) (by rw [hk]; decide) (by rw [hk]; rfl) (by decide) ?_
        refine lv_aload_n hx hb d_T_aboutBlock_112 rfl (lv_at hl 1 rfl) ?_
        refine f_get S cls_T hK hP 0 rfl 12 (by decide) fl_T_timesRead rfl rfl d_T_aboutBlock_113 ?_
        refine lv_iload hx hb d_T_aboutBlock_116 (lv_at hl 0 rfl) ?_
        refine T_ar 3 (by decide) S hK hP (r := f * 20 + b) (by omega) rfl d_T_aboutBlock_118 ?_
        exact hret _ _ _ d_T_aboutBlock_119 rfl (by first | (simp only [abl, abv, c_6, hcl, hcb, ↓reduceIte]; done) | (simp only [abl, abv, c_6, hcl, hcb, ↓reduceIte]; rfl) | rfl)
      · have hk2 : z = 6 := Int32.toInt_inj.mp (by rw [hk]; decide)
        subst hk2
        refine lv_tableIn (tgt := 120) (off := 100) hx hb d_T_aboutBlock_20 (by rw [hk]; decide) (by rw [hk]; decide) (by rw [hk]; rfl) (by decide) ?_
        refine lv_aload_n hx hb d_T_aboutBlock_120 rfl (lv_at hl 1 rfl) ?_
        refine lv_iload_n hx hb d_T_aboutBlock_121 rfl (lv_at hl 2 rfl) ?_
        refine lv_iload_n hx hb d_T_aboutBlock_122 rfl (lv_at hl 3 rfl) ?_
        refine lv_iconst (v := 0) hx hb d_T_aboutBlock_123 (by decide) ?_
        refine T_ro S (c_T_travelToRead l D ca t g f b 0 (by omega) (by omega) (by omega)) k_T_119 rfl hP hK rfl rfl hl.1 ⟨Nat.le_of_ble_eq_true rfl, Nat.le_of_ble_eq_true rfl⟩ ⟨Nat.zero_le _, Nat.zero_le _⟩ (Nat.le_of_ble_eq_true rfl) d_T_aboutBlock_124 ?_
        exact hret _ _ _ d_T_aboutBlock_127 rfl (by first | (simp only [abl, abv, c_6, hcl, hcb, ↓reduceIte]; done) | (simp only [abl, abv, c_6, hcl, hcb, ↓reduceIte]; rfl) | rfl)
      · have hk2 : z = 7 := Int32.toInt_inj.mp (by rw [hk]; decide)
        subst hk2
        refine lv_tableIn (tgt := 128) (off := 108) hx hb d_T_aboutBlock_20 (by rw [hk]; decide) (by rw [hk]; decide) (by rw [hk]; rfl) (by decide) ?_
        refine lv_aload_n hx hb d_T_aboutBlock_128 rfl (lv_at hl 1 rfl) ?_
        refine lv_iload_n hx hb d_T_aboutBlock_129 rfl (lv_at hl 2 rfl) ?_
        refine lv_iload_n hx hb d_T_aboutBlock_130 rfl (lv_at hl 3 rfl) ?_
        refine lv_iconst (v := 1) hx hb d_T_aboutBlock_131 (by decide) ?_
        refine T_ro S (c_T_travelToRead l D ca t g f b 1 (by omega) (by omega) (by omega)) k_T_119 rfl hP hK rfl rfl hl.1 ⟨Nat.le_of_ble_eq_true rfl, Nat.le_of_ble_eq_true rfl⟩ ⟨Nat.zero_le _, Nat.zero_le _⟩ (Nat.le_of_ble_eq_true rfl) d_T_aboutBlock_132 ?_
        exact hret _ _ _ d_T_aboutBlock_135 rfl (by first | (simp only [abl, abv, c_6, hcl, hcb, ↓reduceIte]; done) | (simp only [abl, abv, c_6, hcl, hcb, ↓reduceIte]; rfl) | rfl)
    · have hn_0 : ¬ z = 0 := fun q => hsw (by rw [q]; decide)
      have hn_1 : ¬ z = 1 := fun q => hsw (by rw [q]; decide)
      have hn_2 : ¬ z = 2 := fun q => hsw (by rw [q]; decide)
      have hn_3 : ¬ z = 3 := fun q => hsw (by rw [q]; decide)
      have hn_4 : ¬ z = 4 := fun q => hsw (by rw [q]; decide)
      have hn_5 : ¬ z = 5 := fun q => hsw (by rw [q]; decide)
      have hn_6 : ¬ z = 6 := fun q => hsw (by rw [q]; decide)
      have hn_7 : ¬ z = 7 := fun q => hsw (by rw [q]; decide)
      refine lv_tableOut (tgt := 136) hx hb d_T_aboutBlock_20 (by omega) (by decide) ?_
      refine lv_bipush (v := (-2)) hx hb d_T_aboutBlock_136 (by decide) ?_
      exact hret _ _ _ d_T_aboutBlock_138 rfl (by first | (simp only [abl, abv, c_6, hcl, hcb, hn_0, hn_1, hn_2, hn_3, hn_4, hn_5, hn_6, hn_7, ↓reduceIte]; done) | (simp only [abl, abv, c_6, hcl, hcb, hn_0, hn_1, hn_2, hn_3, hn_4, hn_5, hn_6, hn_7, ↓reduceIte]; rfl) | rfl)
  · refine lv_iconst (v := (-1)) hx hb d_T_aboutBlock_9 (by decide) ?_
    exact hret _ _ _ d_T_aboutBlock_10 rfl (by first | (simp only [abl, abv, c_6, ↓reduceIte]; done) | (simp only [abl, abv, c_6, ↓reduceIte]; rfl) | rfl)
set_option maxHeartbeats 4000000 in
set_option maxRecDepth 100000 in
theorem c_T_rowWithData (l : Launch) (D : va_G) (ca : Nat → ClassId) (t : Nat → Nat) (g : Nat → Int32) (x y : Int32) (hB : BN g): RO l y_T_rowWithData b_T_rowWithData 7 (some .int) 3 68 D ca [.ref (t 0), .int x, .int y] (tw ca t g) (rwd g x y) := by
  refine RO.mk (ty := .int) rfl rfl (Nat.le_of_ble_eq_true rfl) ?_
  intro p e s m args below meth c Q S hP hK
  obtain ⟨hx, hb, hml, hown, hts⟩ := id S
  intro hret ls hl0
  have hl : lv_has ls 7 [(0, .ref (t 0)), (1, .int x), (2, .int y)] := hl0
  refine lv_iconst (v := 0) hx hb d_T_rowWithData_0 (by decide) ?_
  refine lv_istore_n (lv' := [(3, .int 0), (0, .ref (t 0)), (1, .int x), (2, .int y)]) hx hb d_T_rowWithData_1 rfl hl (by decide) rfl (fun ls hl => ?_)
  suffices lp : ∀ (k i : Nat), 2 - i < k → i ≤ 2 → rwd g x y = rwq g x y (2 - i) i → ∀ ls : Array Slot, lv_has ls 7 [(3, .int (nI i)), (0, .ref (t 0)), (1, .int x), (2, .int y)] → W p l e (rm 3 68 0 0) s m args below meth c s.heap [] 0 0 Q (F0 m 2 ls []) from lp 3 0 (by omega) (by omega) rfl _ (lv_sub hl [0, 1, 2, 3] rfl)
  intro k
  induction k with
  | zero => intro i hi; omega
  | succ k ih =>
    intro i hi hin hE ls hl
    refine lv_iload_n hx hb d_T_rowWithData_2 rfl (lv_at hl 0 rfl) ?_
    refine lv_iconst (v := 2) hx hb d_T_rowWithData_3 (by decide) ?_
    refine lv_icmp_ge (tgt := 82) hx hb d_T_rowWithData_4 (by decide) (fun c_4 => ?_) (fun c_4 => ?_)
    · have e_4 : 2 ≤ i := le_of_nI (by omega) (by omega) (show nI 2 ≤ nI i from c_4)
      obtain rfl : i = 2 := by omega
      refine lv_iconst (v := (-1)) hx hb d_T_rowWithData_82 (by decide) ?_
      exact hret _ _ _ d_T_rowWithData_83 rfl (by rw [hE]; rfl)
    · have e_4 : i < 2 := nle_lt (by omega) (by omega) (show ¬ nI 2 ≤ nI i from c_4)
      have hn := (hB i e_4).2
      have hE0 : rwd g x y = (rwb g x y i (bn g i - 0) 0).elim (rwq g x y (1 - i) (i + 1)) nI := by
        rw [hE, show 2 - i = (1 - i) + 1 by omega]; rfl
      refine lv_iconst (v := 0) hx hb d_T_rowWithData_7 (by decide) ?_
      refine lv_istore (lv' := [(4, .int 0), (3, .int (nI i)), (0, .ref (t 0)), (1, .int x), (2, .int y)]) hx hb d_T_rowWithData_8 hl (by decide) rfl (fun ls hl => ?_)
      suffices lp2 : ∀ (k2 j : Nat), bn g i - j < k2 → j ≤ bn g i → rwd g x y = (rwb g x y i (bn g i - j) j).elim (rwq g x y (1 - i) (i + 1)) nI → ∀ ls : Array Slot, lv_has ls 7 [(4, .int (nI j)), (3, .int (nI i)), (0, .ref (t 0)), (1, .int x), (2, .int y)] → W p l e (rm 3 68 0 0) s m args below meth c s.heap [] 0 0 Q (F0 m 10 ls []) from lp2 (bn g i + 1) 0 (by omega) (by omega) hE0 _ (lv_sub hl [0, 1, 2, 3, 4] rfl)
      intro k2
      induction k2 with
      | zero => intro j hj; omega
      | succ k2 ih2 =>
        intro j hj hjn hE2 ls hl
        refine lv_iload hx hb d_T_rowWithData_10 (lv_at hl 0 rfl) ?_
        refine lv_aload_n hx hb d_T_rowWithData_12 rfl (lv_at hl 2 rfl) ?_
        refine f_get S cls_T hK hP 0 rfl 8 (by decide) fl_T_blocks rfl rfl d_T_rowWithData_13 ?_
        refine lv_iload_n hx hb d_T_rowWithData_16 rfl (lv_at hl 1 rfl) ?_
        refine T_bl S hK hP hB (f := i) (by omega) rfl d_T_rowWithData_17 ?_
        refine lv_icmp_ge (tgt := 76) hx hb d_T_rowWithData_18 (by decide) (fun c_18 => ?_) (fun c_18 => ?_)
        · have e_18 : bn g i ≤ j := le_of_nI (by omega) (by omega) c_18
          obtain rfl : j = bn g i := by omega
          have hE4 : rwd g x y = rwq g x y (2 - (i + 1)) (i + 1) := by
            rw [hE2, Nat.sub_self, show 2 - (i + 1) = 1 - i by omega]; rfl
          refine lv_iinc (v := nI (i + 1)) (lv' := [(3, .int (nI (i + 1))), (4, .int (nI (bn g i))), (0, .ref (t 0)), (1, .int x), (2, .int y)]) hx hb d_T_rowWithData_76 hl (k := 1) rfl (nI_1 i) (by decide) rfl (fun ls hl => ?_)
          refine lv_goto (tgt := 2) hx hb d_T_rowWithData_79 (by decide) ?_
          exact ih (i + 1) (by omega) (by omega) hE4 _ (lv_sub hl [0, 2, 3, 4] rfl)
        · have e_18 : j < bn g i := nle_lt (by omega) (by omega) c_18
          refine lv_aload_n hx hb d_T_rowWithData_21 rfl (lv_at hl 2 rfl) ?_
          refine lv_iload_n hx hb d_T_rowWithData_22 rfl (lv_at hl 1 rfl) ?_
          refine lv_iload hx hb d_T_rowWithData_23 (lv_at hl 0 rfl) ?_
          refine T_ro0 S (c_T_rowOf l D ca (t 0) i j ) k_T_82 rfl hP hK rfl rfl hl.1 ⟨Nat.le_of_ble_eq_true rfl, Nat.le_of_ble_eq_true rfl⟩ ⟨Nat.zero_le _, Nat.zero_le _⟩ (Nat.le_of_ble_eq_true rfl) d_T_rowWithData_25 ?_
          refine lv_istore (lv' := [(5, .int (nI (i * 20 + j))), (4, .int (nI j)), (3, .int (nI i)), (0, .ref (t 0)), (1, .int x), (2, .int y)]) hx hb d_T_rowWithData_28 hl (by decide) rfl (fun ls hl => ?_)
          refine lv_aload_n hx hb d_T_rowWithData_30 rfl (lv_at hl 3 rfl) ?_
          refine lv_iload_n hx hb d_T_rowWithData_31 rfl (lv_at hl 2 rfl) ?_
          refine lv_iload hx hb d_T_rowWithData_32 (lv_at hl 1 rfl) ?_
          refine T_ro S (c_T_lowerEnd l D ca t g i j (by omega) (by omega)) k_T_116 rfl hP hK rfl rfl hl.1 ⟨Nat.le_of_ble_eq_true rfl, Nat.le_of_ble_eq_true rfl⟩ ⟨Nat.zero_le _, Nat.zero_le _⟩ (Nat.le_of_ble_eq_true rfl) d_T_rowWithData_34 ?_
          refine lv_aload_n hx hb d_T_rowWithData_37 rfl (lv_at hl 3 rfl) ?_
          refine f_get S cls_T hK hP 0 rfl 11 (by decide) fl_T_marks rfl rfl d_T_rowWithData_38 ?_
          refine lv_iload hx hb d_T_rowWithData_41 (lv_at hl 0 rfl) ?_
          refine T_ar 2 (by decide) S hK hP (r := i * 20 + j) (by omega) rfl d_T_rowWithData_43 ?_
          refine lv_iadd hx hb d_T_rowWithData_44 ?_
          refine lv_istore (lv' := [(6, .int (fd g i j)), (5, .int (nI (i * 20 + j))), (4, .int (nI j)), (3, .int (nI i)), (0, .ref (t 0)), (1, .int x), (2, .int y)]) hx hb d_T_rowWithData_45 hl (by decide) rfl (fun ls hl => ?_)
          refine lv_iload_n hx hb d_T_rowWithData_47 rfl (lv_at hl 5 rfl) ?_
          refine lv_iload hx hb d_T_rowWithData_48 (lv_at hl 0 rfl) ?_
          refine lv_icmp_lt (tgt := 70) hx hb d_T_rowWithData_50 (by decide) (fun c_50 => ?_) (fun c_50 => ?_)
          · have hE3 : rwd g x y = (rwb g x y i (bn g i - (j + 1)) (j + 1)).elim (rwq g x y (1 - i) (i + 1)) nI := by
              rw [hE2, show bn g i - j = (bn g i - (j + 1)) + 1 by omega]
              simp only [rwb, c_50, ↓reduceIte]
            refine lv_iinc (v := nI (j + 1)) (lv' := [(4, .int (nI (j + 1))), (6, .int (fd g i j)), (5, .int (nI (i * 20 + j))), (3, .int (nI i)), (0, .ref (t 0)), (1, .int x), (2, .int y)]) hx hb d_T_rowWithData_70 hl (k := 2) rfl (nI_1 j) (by decide) rfl (fun ls hl => ?_)
            refine lv_goto (tgt := 10) hx hb d_T_rowWithData_73 (by decide) ?_
            exact ih2 (j + 1) (by omega) (by omega) hE3 _ (lv_sub hl [0, 3, 4, 5, 6] rfl)
          · refine lv_iload_n hx hb d_T_rowWithData_53 rfl (lv_at hl 6 rfl) ?_
            refine lv_iload hx hb d_T_rowWithData_54 (lv_at hl 0 rfl) ?_
            refine lv_aload_n hx hb d_T_rowWithData_56 rfl (lv_at hl 4 rfl) ?_
            refine f_get S cls_T hK hP 0 rfl 9 (by decide) fl_T_data rfl rfl d_T_rowWithData_57 ?_
            refine lv_iload hx hb d_T_rowWithData_60 (lv_at hl 1 rfl) ?_
            refine T_ar 0 (by decide) S hK hP (r := i * 20 + j) (by omega) rfl d_T_rowWithData_62 ?_
            refine lv_iadd hx hb d_T_rowWithData_63 ?_
            refine lv_icmp_gt (tgt := 70) hx hb d_T_rowWithData_64 (by decide) (fun c_64 => ?_) (fun c_64 => ?_)
            · have hE3 : rwd g x y = (rwb g x y i (bn g i - (j + 1)) (j + 1)).elim (rwq g x y (1 - i) (i + 1)) nI := by
                rw [hE2, show bn g i - j = (bn g i - (j + 1)) + 1 by omega]
                simp only [rwb, c_50, c_64, ↓reduceIte]
              refine lv_iinc (v := nI (j + 1)) (lv' := [(4, .int (nI (j + 1))), (6, .int (fd g i j)), (5, .int (nI (i * 20 + j))), (3, .int (nI i)), (0, .ref (t 0)), (1, .int x), (2, .int y)]) hx hb d_T_rowWithData_70 hl (k := 2) rfl (nI_1 j) (by decide) rfl (fun ls hl => ?_)
              refine lv_goto (tgt := 10) hx hb d_T_rowWithData_73 (by decide) ?_
              exact ih2 (j + 1) (by omega) (by omega) hE3 _ (lv_sub hl [0, 3, 4, 5, 6] rfl)
            · refine lv_iload hx hb d_T_rowWithData_67 (lv_at hl 1 rfl) ?_
              exact hret _ _ _ d_T_rowWithData_69 rfl (by
                rw [hE2, show bn g i - j = (bn g i - (j + 1)) + 1 by omega]
                simp only [rwb, c_50, c_64, ↓reduceIte]
                rfl)
set_option maxHeartbeats 4000000 in
set_option maxRecDepth 100000 in
theorem c_T_kindOfFoot (l : Launch) (D : va_G) (ca : Nat → ClassId) (t : Nat → Nat) (g : Nat → Int32) (x : Int32) (hB : BN g): RO l y_T_kindOfFoot b_T_kindOfFoot 3 (some .int) 4 94 D ca [.ref (t 0), .int x] (tw ca t g) (kof g x) := by
  refine RO.mk (ty := .int) rfl rfl (Nat.le_of_ble_eq_true rfl) ?_
  intro p e s m args below meth c Q S hP hK
  obtain ⟨hx, hb, hml, hown, hts⟩ := id S
  intro hret ls hl0
  have hl : lv_has ls 3 [(0, .ref (t 0)), (1, .int x)] := hl0
  refine lv_iload_n hx hb d_T_kindOfFoot_0 rfl (lv_at hl 1 rfl) ?_
  refine lv_if_lt (tgt := 12) hx hb d_T_kindOfFoot_1 (by decide) (fun c_1 => ?_) (fun c_1 => ?_)
  · refine lv_bipush (v := (-2)) hx hb d_T_kindOfFoot_12 (by decide) ?_
    exact hret _ _ _ d_T_kindOfFoot_14 rfl (by first | (simp only [kof, c_1, ↓reduceIte]; done) | (simp only [kof, c_1, ↓reduceIte]; rfl) | rfl)
  · refine lv_iload_n hx hb d_T_kindOfFoot_4 rfl (lv_at hl 1 rfl) ?_
    refine lv_aload_n hx hb d_T_kindOfFoot_5 rfl (lv_at hl 0 rfl) ?_
    refine f_get S cls_T hK hP 0 rfl 0 (by decide) fl_T_feet rfl rfl d_T_kindOfFoot_6 ?_
    refine lv_icmp_lt (tgt := 15) hx hb d_T_kindOfFoot_9 (by decide) (fun c_9 => ?_) (fun c_9 => ?_)
    · refine lv_aload_n hx hb d_T_kindOfFoot_15 rfl (lv_at hl 0 rfl) ?_
      refine lv_iload_n hx hb d_T_kindOfFoot_16 rfl (lv_at hl 1 rfl) ?_
      refine lv_iload_n hx hb d_T_kindOfFoot_17 rfl (lv_at hl 1 rfl) ?_
      refine lv_iconst (v := 1) hx hb d_T_kindOfFoot_18 (by decide) ?_
      refine lv_iadd hx hb d_T_kindOfFoot_19 ?_
      refine T_ro S (c_T_isInGap l D ca t g x (x + 1) hB) k_T_96 rfl hP hK rfl rfl hl.1 ⟨Nat.le_of_ble_eq_true rfl, Nat.le_of_ble_eq_true rfl⟩ ⟨Nat.zero_le _, Nat.zero_le _⟩ (Nat.le_of_ble_eq_true rfl) d_T_kindOfFoot_20 ?_
      refine lv_if_eq (tgt := 28) hx hb d_T_kindOfFoot_23 (by decide) (fun c_23 => ?_) (fun c_23 => ?_)
      · refine lv_iload_n hx hb d_T_kindOfFoot_28 rfl (lv_at hl 1 rfl) ?_
        refine lv_aload_n hx hb d_T_kindOfFoot_29 rfl (lv_at hl 0 rfl) ?_
        refine lv_iconst (v := 0) hx hb d_T_kindOfFoot_30 (by decide) ?_
        refine T_ro S (c_T_endInGap l D ca t g 0 hB (by omega)) k_T_75 rfl hP hK rfl rfl hl.1 ⟨Nat.le_of_ble_eq_true rfl, Nat.le_of_ble_eq_true rfl⟩ ⟨Nat.zero_le _, Nat.zero_le _⟩ (Nat.le_of_ble_eq_true rfl) d_T_kindOfFoot_31 ?_
        refine lv_icmp_ge (tgt := 41) hx hb d_T_kindOfFoot_34 (by decide) (fun c_34 => ?_) (fun c_34 => ?_)
        · refine lv_bipush (v := 11) hx hb d_T_kindOfFoot_41 (by decide) ?_
          refine lv_istore_n (lv' := [(2, .int 11), (0, .ref (t 0)), (1, .int x)]) hx hb d_T_kindOfFoot_43 rfl hl (by decide) rfl (fun ls hl => ?_)
          refine lv_aload_n hx hb d_T_kindOfFoot_44 rfl (lv_at hl 1 rfl) ?_
          refine lv_iload_n hx hb d_T_kindOfFoot_45 rfl (lv_at hl 2 rfl) ?_
          refine lv_iload_n hx hb d_T_kindOfFoot_46 rfl (lv_at hl 2 rfl) ?_
          refine lv_iconst (v := 1) hx hb d_T_kindOfFoot_47 (by decide) ?_
          refine lv_iadd hx hb d_T_kindOfFoot_48 ?_
          refine T_ro S (c_T_rowWithData l D ca t g x (x + 1) hB) k_T_93 rfl hP hK rfl rfl hl.1 ⟨Nat.le_of_ble_eq_true rfl, Nat.le_of_ble_eq_true rfl⟩ ⟨Nat.zero_le _, Nat.zero_le _⟩ (Nat.le_of_ble_eq_true rfl) d_T_kindOfFoot_49 ?_
          refine lv_if_ge (tgt := 59) hx hb d_T_kindOfFoot_52 (by decide) (fun c_52 => ?_) (fun c_52 => ?_)
          · refine lv_iload_n hx hb d_T_kindOfFoot_59 rfl (lv_at hl 0 rfl) ?_
            refine lv_iconst (v := 1) hx hb d_T_kindOfFoot_60 (by decide) ?_
            refine lv_iadd hx hb d_T_kindOfFoot_61 ?_
            refine lv_tope (z := 12) (by decide) ?_
            exact hret _ _ _ d_T_kindOfFoot_62 rfl (by first | (simp only [kof, c_1, c_9, c_23, c_34, c_52, ↓reduceIte]; done) | (simp only [kof, c_1, c_9, c_23, c_34, c_52, ↓reduceIte]; rfl) | rfl)
          · refine lv_iload_n hx hb d_T_kindOfFoot_55 rfl (lv_at hl 0 rfl) ?_
            refine lv_goto (tgt := 62) hx hb d_T_kindOfFoot_56 (by decide) ?_
            exact hret _ _ _ d_T_kindOfFoot_62 rfl (by first | (simp only [kof, c_1, c_9, c_23, c_34, c_52, ↓reduceIte]; done) | (simp only [kof, c_1, c_9, c_23, c_34, c_52, ↓reduceIte]; rfl) | rfl)
        · refine lv_iconst (v := 1) hx hb d_T_kindOfFoot_37 (by decide) ?_
          refine lv_goto (tgt := 43) hx hb d_T_kindOfFoot_38 (by decide) ?_
          refine lv_istore_n (lv' := [(2, .int 1), (0, .ref (t 0)), (1, .int x)]) hx hb d_T_kindOfFoot_43 rfl hl (by decide) rfl (fun ls hl => ?_)
          refine lv_aload_n hx hb d_T_kindOfFoot_44 rfl (lv_at hl 1 rfl) ?_
          refine lv_iload_n hx hb d_T_kindOfFoot_45 rfl (lv_at hl 2 rfl) ?_
          refine lv_iload_n hx hb d_T_kindOfFoot_46 rfl (lv_at hl 2 rfl) ?_
          refine lv_iconst (v := 1) hx hb d_T_kindOfFoot_47 (by decide) ?_
          refine lv_iadd hx hb d_T_kindOfFoot_48 ?_
          refine T_ro S (c_T_rowWithData l D ca t g x (x + 1) hB) k_T_93 rfl hP hK rfl rfl hl.1 ⟨Nat.le_of_ble_eq_true rfl, Nat.le_of_ble_eq_true rfl⟩ ⟨Nat.zero_le _, Nat.zero_le _⟩ (Nat.le_of_ble_eq_true rfl) d_T_kindOfFoot_49 ?_
          refine lv_if_ge (tgt := 59) hx hb d_T_kindOfFoot_52 (by decide) (fun c_52 => ?_) (fun c_52 => ?_)
          · refine lv_iload_n hx hb d_T_kindOfFoot_59 rfl (lv_at hl 0 rfl) ?_
            refine lv_iconst (v := 1) hx hb d_T_kindOfFoot_60 (by decide) ?_
            refine lv_iadd hx hb d_T_kindOfFoot_61 ?_
            refine lv_tope (z := 2) (by decide) ?_
            exact hret _ _ _ d_T_kindOfFoot_62 rfl (by first | (simp only [kof, c_1, c_9, c_23, c_34, c_52, ↓reduceIte]; done) | (simp only [kof, c_1, c_9, c_23, c_34, c_52, ↓reduceIte]; rfl) | rfl)
          · refine lv_iload_n hx hb d_T_kindOfFoot_55 rfl (lv_at hl 0 rfl) ?_
            refine lv_goto (tgt := 62) hx hb d_T_kindOfFoot_56 (by decide) ?_
            exact hret _ _ _ d_T_kindOfFoot_62 rfl (by first | (simp only [kof, c_1, c_9, c_23, c_34, c_52, ↓reduceIte]; done) | (simp only [kof, c_1, c_9, c_23, c_34, c_52, ↓reduceIte]; rfl) | rfl)
      · refine lv_iconst (v := 0) hx hb d_T_kindOfFoot_26 (by decide) ?_
        exact hret _ _ _ d_T_kindOfFoot_27 rfl (by first | (simp only [kof, c_1, c_9, c_23, ↓reduceIte]; done) | (simp only [kof, c_1, c_9, c_23, ↓reduceIte]; rfl) | rfl)
    · refine lv_bipush (v := (-2)) hx hb d_T_kindOfFoot_12 (by decide) ?_
      exact hret _ _ _ d_T_kindOfFoot_14 rfl (by first | (simp only [kof, c_1, c_9, ↓reduceIte]; done) | (simp only [kof, c_1, c_9, ↓reduceIte]; rfl) | rfl)
set_option maxHeartbeats 4000000 in
set_option maxRecDepth 100000 in
theorem c_T_greatestData (l : Launch) (D : va_G) (ca : Nat → ClassId) (t : Nat → Nat) (g : Nat → Int32) (x : Int32) (hB : BN g): RO l y_T_greatestData b_T_greatestData 2 (some .int) 3 66 D ca [.ref (t 0), .int x] (tw ca t g) (grd g x) := by
  refine RO.mk (ty := .int) rfl rfl (Nat.le_of_ble_eq_true rfl) ?_
  intro p e s m args below meth c Q S hP hK
  obtain ⟨hx, hb, hml, hown, hts⟩ := id S
  intro hret ls hl0
  have hl : lv_has ls 2 [(0, .ref (t 0)), (1, .int x)] := hl0
  refine lv_aload_n hx hb d_T_greatestData_0 rfl (lv_at hl 0 rfl) ?_
  refine lv_iload_n hx hb d_T_greatestData_1 rfl (lv_at hl 1 rfl) ?_
  refine T_ro0 S (c_T_isFile l D ca (t 0) x ) k_T_71 rfl hP hK rfl rfl hl.1 ⟨Nat.le_of_ble_eq_true rfl, Nat.le_of_ble_eq_true rfl⟩ ⟨Nat.zero_le _, Nat.zero_le _⟩ (Nat.le_of_ble_eq_true rfl) d_T_greatestData_2 ?_
  refine lv_if_ne (tgt := 10) hx hb d_T_greatestData_5 (by decide) (fun c_5 => ?_) (fun c_5 => ?_)
  · obtain ⟨f, hf, rfl⟩ := isf_of c_5
    have hcl : (nI f).toNatClampNeg = f := nI_clamp (by omega)
    refine lv_aload_n hx hb d_T_greatestData_10 rfl (lv_at hl 0 rfl) ?_
    refine f_get S cls_T hK hP 0 rfl 8 (by decide) fl_T_blocks rfl rfl d_T_greatestData_11 ?_
    refine lv_iload_n hx hb d_T_greatestData_14 rfl (lv_at hl 1 rfl) ?_
    refine T_bl S hK hP hB (f := f) (by omega) rfl d_T_greatestData_15 ?_
    refine lv_bipush (v := 20) hx hb d_T_greatestData_16 (by decide) ?_
    refine lv_icmp_lt (tgt := 23) hx hb d_T_greatestData_18 (by decide) (fun c_18 => ?_) (fun c_18 => ?_)
    · refine lv_iconst (v := 0) hx hb d_T_greatestData_23 (by decide) ?_
      refine lv_bipush (v := 99) hx hb d_T_greatestData_24 (by decide) ?_
      refine lv_aload_n hx hb d_T_greatestData_26 rfl (lv_at hl 0 rfl) ?_
      refine T_ro S (c_T_gap l D ca t g  hB) k_T_68 rfl hP hK rfl rfl hl.1 ⟨Nat.le_of_ble_eq_true rfl, Nat.le_of_ble_eq_true rfl⟩ ⟨Nat.zero_le _, Nat.zero_le _⟩ (Nat.le_of_ble_eq_true rfl) d_T_greatestData_27 ?_
      refine lv_aload_n hx hb d_T_greatestData_30 rfl (lv_at hl 0 rfl) ?_
      refine f_get S cls_T hK hP 0 rfl 1 (by decide) fl_T_leastGap rfl rfl d_T_greatestData_31 ?_
      refine lv_isub hx hb d_T_greatestData_34 ?_
      refine lv_iconst (v := 2) hx hb d_T_greatestData_35 (by decide) ?_
      refine lv_aload_n hx hb d_T_greatestData_36 rfl (lv_at hl 0 rfl) ?_
      refine f_get S cls_T hK hP 0 rfl 2 (by decide) fl_T_mark rfl rfl d_T_greatestData_37 ?_
      refine lv_imul hx hb d_T_greatestData_40 ?_
      refine lv_isub hx hb d_T_greatestData_41 ?_
      refine va_mmin hx hb (hml.trans hl.1.symm) hown (hts _ kx_T_62) (hts _ xs_Math_min) (hts _ in_java_lang_Math) (hts _ xc_Math_min) (Nat.le_of_ble_eq_true rfl) (Nat.le_of_ble_eq_true rfl) (Nat.zero_le _) (Nat.zero_le _) d_T_greatestData_42 ?_
      refine lv_tope (z := mn2 99 (((gp g) - (g 1)) - (2 * (g 2)))) rfl ?_
      refine va_mmax hx hb (hml.trans hl.1.symm) hown (hts _ kx_T_99) (hts _ xs_Math_max) (hts _ in_java_lang_Math) (hts _ xc_Math_max) (Nat.le_of_ble_eq_true rfl) (Nat.le_of_ble_eq_true rfl) (Nat.zero_le _) (Nat.zero_le _) d_T_greatestData_45 ?_
      refine lv_tope (z := mx2 0 (mn2 99 (((gp g) - (g 1)) - (2 * (g 2))))) rfl ?_
      exact hret _ _ _ d_T_greatestData_48 rfl (by first | (simp only [grd, c_5, hcl, c_18, ↓reduceIte]; done) | (simp only [grd, c_5, hcl, c_18, ↓reduceIte]; rfl) | rfl)
    · refine lv_iconst (v := 0) hx hb d_T_greatestData_21 (by decide) ?_
      exact hret _ _ _ d_T_greatestData_22 rfl (by first | (simp only [grd, c_5, hcl, c_18, ↓reduceIte]; done) | (simp only [grd, c_5, hcl, c_18, ↓reduceIte]; rfl) | rfl)
  · refine lv_iconst (v := (-1)) hx hb d_T_greatestData_8 (by decide) ?_
    exact hret _ _ _ d_T_greatestData_9 rfl (by first | (simp only [grd, c_5, ↓reduceIte]; done) | (simp only [grd, c_5, ↓reduceIte]; rfl) | rfl)
set_option maxHeartbeats 4000000 in
set_option maxRecDepth 100000 in
theorem c_T_blocksThatFit (l : Launch) (D : va_G) (ca : Nat → ClassId) (t : Nat → Nat) (g : Nat → Int32) (x : Int32) (hB : BN g): RO l y_T_blocksThatFit b_T_blocksThatFit 3 (some .int) 3 66 D ca [.ref (t 0), .int x] (tw ca t g) (btf g x) := by
  refine RO.mk (ty := .int) rfl rfl (Nat.le_of_ble_eq_true rfl) ?_
  intro p e s m args below meth c Q S hP hK
  obtain ⟨hx, hb, hml, hown, hts⟩ := id S
  intro hret ls hl0
  have hl : lv_has ls 3 [(0, .ref (t 0)), (1, .int x)] := hl0
  refine lv_iload_n hx hb d_T_blocksThatFit_0 rfl (lv_at hl 1 rfl) ?_
  refine lv_iconst (v := 1) hx hb d_T_blocksThatFit_1 (by decide) ?_
  refine lv_icmp_lt (tgt := 11) hx hb d_T_blocksThatFit_2 (by decide) (fun c_2 => ?_) (fun c_2 => ?_)
  · refine lv_bipush (v := (-2)) hx hb d_T_blocksThatFit_11 (by decide) ?_
    exact hret _ _ _ d_T_blocksThatFit_13 rfl (by first | (simp only [btf, c_2, ↓reduceIte]; done) | (simp only [btf, c_2, ↓reduceIte]; rfl) | rfl)
  · refine lv_iload_n hx hb d_T_blocksThatFit_5 rfl (lv_at hl 1 rfl) ?_
    refine lv_bipush (v := 99) hx hb d_T_blocksThatFit_6 (by decide) ?_
    refine lv_icmp_le (tgt := 14) hx hb d_T_blocksThatFit_8 (by decide) (fun c_8 => ?_) (fun c_8 => ?_)
    · refine lv_iload_n hx hb d_T_blocksThatFit_14 rfl (lv_at hl 1 rfl) ?_
      refine lv_iconst (v := 2) hx hb d_T_blocksThatFit_15 (by decide) ?_
      refine lv_aload_n hx hb d_T_blocksThatFit_16 rfl (lv_at hl 0 rfl) ?_
      refine f_get S cls_T hK hP 0 rfl 2 (by decide) fl_T_mark rfl rfl d_T_blocksThatFit_17 ?_
      refine lv_imul hx hb d_T_blocksThatFit_20 ?_
      refine lv_iadd hx hb d_T_blocksThatFit_21 ?_
      refine lv_istore_n (lv' := [(2, .int (x + (2 * (g 2)))), (0, .ref (t 0)), (1, .int x)]) hx hb d_T_blocksThatFit_22 rfl hl (by decide) rfl (fun ls hl => ?_)
      refine lv_iload_n hx hb d_T_blocksThatFit_23 rfl (lv_at hl 0 rfl) ?_
      refine lv_iconst (v := 1) hx hb d_T_blocksThatFit_24 (by decide) ?_
      refine lv_icmp_ge (tgt := 30) hx hb d_T_blocksThatFit_25 (by decide) (fun c_25 => ?_) (fun c_25 => ?_)
      · refine lv_bipush (v := 40) hx hb d_T_blocksThatFit_30 (by decide) ?_
        refine lv_aload_n hx hb d_T_blocksThatFit_32 rfl (lv_at hl 1 rfl) ?_
        refine T_ro S (c_T_allBlocks l D ca t g  hB) k_T_58 rfl hP hK rfl rfl hl.1 ⟨Nat.le_of_ble_eq_true rfl, Nat.le_of_ble_eq_true rfl⟩ ⟨Nat.zero_le _, Nat.zero_le _⟩ (Nat.le_of_ble_eq_true rfl) d_T_blocksThatFit_33 ?_
        refine lv_isub hx hb d_T_blocksThatFit_36 ?_
        refine lv_aload_n hx hb d_T_blocksThatFit_37 rfl (lv_at hl 1 rfl) ?_
        refine T_ro S (c_T_gap l D ca t g  hB) k_T_68 rfl hP hK rfl rfl hl.1 ⟨Nat.le_of_ble_eq_true rfl, Nat.le_of_ble_eq_true rfl⟩ ⟨Nat.zero_le _, Nat.zero_le _⟩ (Nat.le_of_ble_eq_true rfl) d_T_blocksThatFit_38 ?_
        refine lv_aload_n hx hb d_T_blocksThatFit_41 rfl (lv_at hl 1 rfl) ?_
        refine f_get S cls_T hK hP 0 rfl 1 (by decide) fl_T_leastGap rfl rfl d_T_blocksThatFit_42 ?_
        refine lv_isub hx hb d_T_blocksThatFit_45 ?_
        refine lv_iload_n hx hb d_T_blocksThatFit_46 rfl (lv_at hl 0 rfl) ?_
        refine lv_idiv hx hb d_T_blocksThatFit_47 (fun q => by rw [q] at c_25; exact absurd c_25 (by decide)) ?_
        refine va_mmin hx hb (hml.trans hl.1.symm) hown (hts _ kx_T_62) (hts _ xs_Math_min) (hts _ in_java_lang_Math) (hts _ xc_Math_min) (Nat.le_of_ble_eq_true rfl) (Nat.le_of_ble_eq_true rfl) (Nat.zero_le _) (Nat.zero_le _) d_T_blocksThatFit_48 ?_
        refine lv_tope (z := mn2 (40 - (nI (bn g 0 + bn g 1))) (((gp g) - (g 1)) / (x + (2 * (g 2))))) rfl ?_
        exact hret _ _ _ d_T_blocksThatFit_51 rfl (by first | (simp only [btf, c_2, c_8, c_25, ↓reduceIte]; done) | (simp only [btf, c_2, c_8, c_25, ↓reduceIte]; rfl) | rfl)
      · refine lv_iconst (v := 0) hx hb d_T_blocksThatFit_28 (by decide) ?_
        exact hret _ _ _ d_T_blocksThatFit_29 rfl (by first | (simp only [btf, c_2, c_8, c_25, ↓reduceIte]; done) | (simp only [btf, c_2, c_8, c_25, ↓reduceIte]; rfl) | rfl)
    · refine lv_bipush (v := (-2)) hx hb d_T_blocksThatFit_11 (by decide) ?_
      exact hret _ _ _ d_T_blocksThatFit_13 rfl (by first | (simp only [btf, c_2, c_8, ↓reduceIte]; done) | (simp only [btf, c_2, c_8, ↓reduceIte]; rfl) | rfl)
set_option maxHeartbeats 4000000 in
set_option maxRecDepth 100000 in
theorem c_T_aboutNearest (l : Launch) (D : va_G) (ca : Nat → ClassId) (t : Nat → Nat) (g : Nat → Int32) (x : Int32) (hB : BN g): RO l y_T_aboutNearest b_T_aboutNearest 8 (some .int) 5 115 D ca [.ref (t 0), .int x] (tw ca t g) (nsr g x) := by
  refine RO.mk (ty := .int) rfl rfl (Nat.le_of_ble_eq_true rfl) ?_
  intro p e s m args below meth c Q S hP hK
  obtain ⟨hx, hb, hml, hown, hts⟩ := id S
  intro hret ls hl0
  have hl : lv_has ls 8 [(0, .ref (t 0)), (1, .int x)] := hl0
  refine lv_iload_n hx hb d_T_aboutNearest_0 rfl (lv_at hl 1 rfl) ?_
  refine lv_if_lt (tgt := 9) hx hb d_T_aboutNearest_1 (by decide) (fun c_1 => ?_) (fun c_1 => ?_)
  · refine lv_bipush (v := (-2)) hx hb d_T_aboutNearest_9 (by decide) ?_
    exact hret _ _ _ d_T_aboutNearest_11 rfl (by first | (simp only [nsr, c_1, ↓reduceIte]; done) | (simp only [nsr, c_1, ↓reduceIte]; rfl) | rfl)
  · refine lv_iload_n hx hb d_T_aboutNearest_4 rfl (lv_at hl 1 rfl) ?_
    refine lv_iconst (v := 3) hx hb d_T_aboutNearest_5 (by decide) ?_
    refine lv_icmp_le (tgt := 12) hx hb d_T_aboutNearest_6 (by decide) (fun c_6 => ?_) (fun c_6 => ?_)
    · refine lv_iconst (v := (-1)) hx hb d_T_aboutNearest_12 (by decide) ?_
      refine lv_istore_n (lv' := [(2, .int (-1)), (0, .ref (t 0)), (1, .int x)]) hx hb d_T_aboutNearest_13 rfl hl (by decide) rfl (fun ls hl => ?_)
      refine lv_bipush (v := (-6)) hx hb d_T_aboutNearest_14 (by decide) ?_
      refine lv_istore_n (lv' := [(3, .int (-6)), (2, .int (-1)), (0, .ref (t 0)), (1, .int x)]) hx hb d_T_aboutNearest_16 rfl hl (by decide) rfl (fun ls hl => ?_)
      refine lv_iconst (v := 0) hx hb d_T_aboutNearest_17 (by decide) ?_
      refine lv_istore (lv' := [(4, .int 0), (3, .int (-6)), (2, .int (-1)), (0, .ref (t 0)), (1, .int x)]) hx hb d_T_aboutNearest_18 hl (by decide) rfl (fun ls hl => ?_)
      have st : ∀ (i j w : Nat) (q : Int32 × Int32), i < 2 → j < 20 → w < 2 → (∀ (v : Int32) (ls : Array Slot), lv_has ls 8 [(2, .int (nst g x i j w q).1), (3, .int (nst g x i j w q).2), (4, .int (nI i)), (5, .int (nI j)), (6, .int (nI w)), (0, .ref (t 0)), (1, .int x)] → W p l e (rm 5 115 0 0) s m args below meth c s.heap [] 0 0 Q (F0 m 107 ls [])) → ∀ ls : Array Slot, lv_has ls 8 [(2, .int q.1), (3, .int q.2), (4, .int (nI i)), (5, .int (nI j)), (6, .int (nI w)), (0, .ref (t 0)), (1, .int x)] → W p l e (rm 5 115 0 0) s m args below meth c s.heap [] 0 0 Q (F0 m 50 ls []) := by
        intro i j w q hi hj hw kk ls hl
        refine lv_aload_n hx hb d_T_aboutNearest_50 rfl (lv_at hl 5 rfl) ?_
        refine lv_iload hx hb d_T_aboutNearest_51 (lv_at hl 2 rfl) ?_
        refine lv_iload hx hb d_T_aboutNearest_53 (lv_at hl 3 rfl) ?_
        refine lv_iload hx hb d_T_aboutNearest_55 (lv_at hl 4 rfl) ?_
        refine T_ro S (c_T_travelToRead l D ca t g i j w (by omega) (by omega) (by omega)) k_T_119 rfl hP hK rfl rfl hl.1 ⟨Nat.le_of_ble_eq_true rfl, Nat.le_of_ble_eq_true rfl⟩ ⟨Nat.zero_le _, Nat.zero_le _⟩ (Nat.le_of_ble_eq_true rfl) d_T_aboutNearest_57 ?_
        refine lv_istore (lv' := [(7, .int (tr g i j w)), (2, .int q.1), (3, .int q.2), (4, .int (nI i)), (5, .int (nI j)), (6, .int (nI w)), (0, .ref (t 0)), (1, .int x)]) hx hb d_T_aboutNearest_60 hl (by decide) rfl (fun ls hl => ?_)
        refine lv_iload_n hx hb d_T_aboutNearest_62 rfl (lv_at hl 1 rfl) ?_
        refine lv_if_lt (tgt := 72) hx hb d_T_aboutNearest_63 (by decide) (fun c_63 => ?_) (fun c_63 => ?_)
        · refine lv_iload hx hb d_T_aboutNearest_72 (lv_at hl 0 rfl) ?_
          refine lv_istore_n (lv' := [(2, .int (tr g i j w)), (7, .int (tr g i j w)), (3, .int q.2), (4, .int (nI i)), (5, .int (nI j)), (6, .int (nI w)), (0, .ref (t 0)), (1, .int x)]) hx hb d_T_aboutNearest_74 rfl hl (by decide) rfl (fun ls hl => ?_)
          refine lv_iload_n hx hb d_T_aboutNearest_75 rfl (lv_at hl 7 rfl) ?_
          refine lv_if_ne (tgt := 84) hx hb d_T_aboutNearest_76 (by decide) (fun c_76 => ?_) (fun c_76 => ?_)
          · refine lv_iload_n hx hb d_T_aboutNearest_84 rfl (lv_at hl 7 rfl) ?_
            refine lv_iconst (v := 1) hx hb d_T_aboutNearest_85 (by decide) ?_
            refine lv_icmp_ne (tgt := 94) hx hb d_T_aboutNearest_86 (by decide) (fun c_86 => ?_) (fun c_86 => ?_)
            · refine lv_iload_n hx hb d_T_aboutNearest_94 rfl (lv_at hl 7 rfl) ?_
              refine lv_iconst (v := 2) hx hb d_T_aboutNearest_95 (by decide) ?_
              refine lv_icmp_ne (tgt := 104) hx hb d_T_aboutNearest_96 (by decide) (fun c_96 => ?_) (fun c_96 => ?_)
              · refine lv_iload hx hb d_T_aboutNearest_104 (lv_at hl 1 rfl) ?_
                refine lv_istore_n (lv' := [(3, .int (tr g i j w)), (2, .int (tr g i j w)), (7, .int (tr g i j w)), (4, .int (nI i)), (5, .int (nI j)), (6, .int (nI w)), (0, .ref (t 0)), (1, .int x)]) hx hb d_T_aboutNearest_106 rfl hl (by decide) rfl (fun ls hl => ?_)
                have hq : nst g x i j w q = (tr g i j w, tr g i j w) := by
                  simp only [nst, nsa, c_63, c_76, c_86, c_96, ↓reduceIte]; first | done | rfl
                refine kk 0 _ ?_
                rw [hq]
                exact lv_sub hl [1, 0, 3, 4, 5, 6, 7] rfl
              · refine lv_iload hx hb d_T_aboutNearest_99 (lv_at hl 5 rfl) ?_
                refine lv_goto (tgt := 106) hx hb d_T_aboutNearest_101 (by decide) ?_
                refine lv_istore_n (lv' := [(3, .int (nI w)), (2, .int (tr g i j w)), (7, .int (tr g i j w)), (4, .int (nI i)), (5, .int (nI j)), (6, .int (nI w)), (0, .ref (t 0)), (1, .int x)]) hx hb d_T_aboutNearest_106 rfl hl (by decide) rfl (fun ls hl => ?_)
                have hq : nst g x i j w q = (tr g i j w, nI w) := by
                  simp only [nst, nsa, c_63, c_76, c_86, c_96, ↓reduceIte]; first | done | rfl
                refine kk 0 _ ?_
                rw [hq]
                exact lv_sub hl [1, 0, 3, 4, 5, 6, 7] rfl
            · refine lv_iload hx hb d_T_aboutNearest_89 (lv_at hl 4 rfl) ?_
              refine lv_goto (tgt := 106) hx hb d_T_aboutNearest_91 (by decide) ?_
              refine lv_istore_n (lv' := [(3, .int (nI j)), (2, .int (tr g i j w)), (7, .int (tr g i j w)), (4, .int (nI i)), (5, .int (nI j)), (6, .int (nI w)), (0, .ref (t 0)), (1, .int x)]) hx hb d_T_aboutNearest_106 rfl hl (by decide) rfl (fun ls hl => ?_)
              have hq : nst g x i j w q = (tr g i j w, nI j) := by
                simp only [nst, nsa, c_63, c_76, c_86, ↓reduceIte]; first | done | rfl
              refine kk 0 _ ?_
              rw [hq]
              exact lv_sub hl [1, 0, 3, 4, 5, 6, 7] rfl
          · refine lv_iload hx hb d_T_aboutNearest_79 (lv_at hl 3 rfl) ?_
            refine lv_goto (tgt := 106) hx hb d_T_aboutNearest_81 (by decide) ?_
            refine lv_istore_n (lv' := [(3, .int (nI i)), (2, .int (tr g i j w)), (7, .int (tr g i j w)), (4, .int (nI i)), (5, .int (nI j)), (6, .int (nI w)), (0, .ref (t 0)), (1, .int x)]) hx hb d_T_aboutNearest_106 rfl hl (by decide) rfl (fun ls hl => ?_)
            have hq : nst g x i j w q = (tr g i j w, nI i) := by
              simp only [nst, nsa, c_63, c_76, ↓reduceIte]; first | done | rfl
            refine kk 0 _ ?_
            rw [hq]
            exact lv_sub hl [1, 0, 3, 4, 5, 6, 7] rfl
        · refine lv_iload hx hb d_T_aboutNearest_66 (lv_at hl 0 rfl) ?_
          refine lv_iload_n hx hb d_T_aboutNearest_68 rfl (lv_at hl 1 rfl) ?_
          refine lv_icmp_ge (tgt := 107) hx hb d_T_aboutNearest_69 (by decide) (fun c_69 => ?_) (fun c_69 => ?_)
          · have hq : nst g x i j w q = (q.1, q.2) := by
              simp only [nst, nsa, c_63, c_69, ↓reduceIte]; first | done | rfl
            refine kk 0 _ ?_
            rw [hq]
            exact lv_sub hl [1, 2, 3, 4, 5, 6, 7] rfl
          · refine lv_iload hx hb d_T_aboutNearest_72 (lv_at hl 0 rfl) ?_
            refine lv_istore_n (lv' := [(2, .int (tr g i j w)), (7, .int (tr g i j w)), (3, .int q.2), (4, .int (nI i)), (5, .int (nI j)), (6, .int (nI w)), (0, .ref (t 0)), (1, .int x)]) hx hb d_T_aboutNearest_74 rfl hl (by decide) rfl (fun ls hl => ?_)
            refine lv_iload_n hx hb d_T_aboutNearest_75 rfl (lv_at hl 7 rfl) ?_
            refine lv_if_ne (tgt := 84) hx hb d_T_aboutNearest_76 (by decide) (fun c_76 => ?_) (fun c_76 => ?_)
            · refine lv_iload_n hx hb d_T_aboutNearest_84 rfl (lv_at hl 7 rfl) ?_
              refine lv_iconst (v := 1) hx hb d_T_aboutNearest_85 (by decide) ?_
              refine lv_icmp_ne (tgt := 94) hx hb d_T_aboutNearest_86 (by decide) (fun c_86 => ?_) (fun c_86 => ?_)
              · refine lv_iload_n hx hb d_T_aboutNearest_94 rfl (lv_at hl 7 rfl) ?_
                refine lv_iconst (v := 2) hx hb d_T_aboutNearest_95 (by decide) ?_
                refine lv_icmp_ne (tgt := 104) hx hb d_T_aboutNearest_96 (by decide) (fun c_96 => ?_) (fun c_96 => ?_)
                · refine lv_iload hx hb d_T_aboutNearest_104 (lv_at hl 1 rfl) ?_
                  refine lv_istore_n (lv' := [(3, .int (tr g i j w)), (2, .int (tr g i j w)), (7, .int (tr g i j w)), (4, .int (nI i)), (5, .int (nI j)), (6, .int (nI w)), (0, .ref (t 0)), (1, .int x)]) hx hb d_T_aboutNearest_106 rfl hl (by decide) rfl (fun ls hl => ?_)
                  have hq : nst g x i j w q = (tr g i j w, tr g i j w) := by
                    simp only [nst, nsa, c_63, c_69, c_76, c_86, c_96, ↓reduceIte]; first | done | rfl
                  refine kk 0 _ ?_
                  rw [hq]
                  exact lv_sub hl [1, 0, 3, 4, 5, 6, 7] rfl
                · refine lv_iload hx hb d_T_aboutNearest_99 (lv_at hl 5 rfl) ?_
                  refine lv_goto (tgt := 106) hx hb d_T_aboutNearest_101 (by decide) ?_
                  refine lv_istore_n (lv' := [(3, .int (nI w)), (2, .int (tr g i j w)), (7, .int (tr g i j w)), (4, .int (nI i)), (5, .int (nI j)), (6, .int (nI w)), (0, .ref (t 0)), (1, .int x)]) hx hb d_T_aboutNearest_106 rfl hl (by decide) rfl (fun ls hl => ?_)
                  have hq : nst g x i j w q = (tr g i j w, nI w) := by
                    simp only [nst, nsa, c_63, c_69, c_76, c_86, c_96, ↓reduceIte]; first | done | rfl
                  refine kk 0 _ ?_
                  rw [hq]
                  exact lv_sub hl [1, 0, 3, 4, 5, 6, 7] rfl
              · refine lv_iload hx hb d_T_aboutNearest_89 (lv_at hl 4 rfl) ?_
                refine lv_goto (tgt := 106) hx hb d_T_aboutNearest_91 (by decide) ?_
                refine lv_istore_n (lv' := [(3, .int (nI j)), (2, .int (tr g i j w)), (7, .int (tr g i j w)), (4, .int (nI i)), (5, .int (nI j)), (6, .int (nI w)), (0, .ref (t 0)), (1, .int x)]) hx hb d_T_aboutNearest_106 rfl hl (by decide) rfl (fun ls hl => ?_)
                have hq : nst g x i j w q = (tr g i j w, nI j) := by
                  simp only [nst, nsa, c_63, c_69, c_76, c_86, ↓reduceIte]; first | done | rfl
                refine kk 0 _ ?_
                rw [hq]
                exact lv_sub hl [1, 0, 3, 4, 5, 6, 7] rfl
            · refine lv_iload hx hb d_T_aboutNearest_79 (lv_at hl 3 rfl) ?_
              refine lv_goto (tgt := 106) hx hb d_T_aboutNearest_81 (by decide) ?_
              refine lv_istore_n (lv' := [(3, .int (nI i)), (2, .int (tr g i j w)), (7, .int (tr g i j w)), (4, .int (nI i)), (5, .int (nI j)), (6, .int (nI w)), (0, .ref (t 0)), (1, .int x)]) hx hb d_T_aboutNearest_106 rfl hl (by decide) rfl (fun ls hl => ?_)
              have hq : nst g x i j w q = (tr g i j w, nI i) := by
                simp only [nst, nsa, c_63, c_69, c_76, ↓reduceIte]; first | done | rfl
              refine kk 0 _ ?_
              rw [hq]
              exact lv_sub hl [1, 0, 3, 4, 5, 6, 7] rfl
      have lb : ∀ (i : Nat), i < 2 → (∀ (q : Int32 × Int32) (ls : Array Slot), q = nsb g x i (bn g i) 0 q → True) → ∀ (kk : ∀ (q : Int32 × Int32) (ls : Array Slot), lv_has ls 8 [(2, .int q.1), (3, .int q.2), (4, .int (nI i)), (0, .ref (t 0)), (1, .int x)] → (nsf g x 2 0 (-1, -6)) = nsf g x (1 - i) (i + 1) q → W p l e (rm 5 115 0 0) s m args below meth c s.heap [] 0 0 Q (F0 m 119 ls [])) (k j : Nat) (q : Int32 × Int32), bn g i - j < k → j ≤ bn g i → (nsf g x 2 0 (-1, -6)) = nsf g x (1 - i) (i + 1) (nsb g x i (bn g i - j) j q) → ∀ ls : Array Slot, lv_has ls 8 [(2, .int q.1), (3, .int q.2), (4, .int (nI i)), (5, .int (nI j)), (0, .ref (t 0)), (1, .int x)] → W p l e (rm 5 115 0 0) s m args below meth c s.heap [] 0 0 Q (F0 m 29 ls []) := by
        intro i hi _ kk k
        have hn := (hB i hi).2
        induction k with
        | zero => intro j q hj; omega
        | succ k ih =>
          intro j q hj hjn hE ls hl
          refine lv_iload hx hb d_T_aboutNearest_29 (lv_at hl 3 rfl) ?_
          refine lv_aload_n hx hb d_T_aboutNearest_31 rfl (lv_at hl 4 rfl) ?_
          refine f_get S cls_T hK hP 0 rfl 8 (by decide) fl_T_blocks rfl rfl d_T_aboutNearest_32 ?_
          refine lv_iload hx hb d_T_aboutNearest_35 (lv_at hl 2 rfl) ?_
          refine T_bl S hK hP hB (f := i) (by omega) rfl d_T_aboutNearest_37 ?_
          refine lv_icmp_ge (tgt := 119) hx hb d_T_aboutNearest_38 (by decide) (fun c_38 => ?_) (fun c_38 => ?_)
          · have e_38 : bn g i ≤ j := le_of_nI (by omega) (by omega) c_38
            obtain rfl : j = bn g i := by omega
            rw [Nat.sub_self] at hE
            exact kk q _ (lv_sub hl [0, 1, 2, 4, 5] rfl) hE
          · have e_38 : j < bn g i := nle_lt (by omega) (by omega) c_38
            refine lv_iconst (v := 0) hx hb d_T_aboutNearest_41 (by decide) ?_
            refine lv_istore (lv' := [(6, .int 0), (2, .int q.1), (3, .int q.2), (4, .int (nI i)), (5, .int (nI j)), (0, .ref (t 0)), (1, .int x)]) hx hb d_T_aboutNearest_42 hl (by decide) rfl (fun ls hl => ?_)
            refine lv_iload hx hb d_T_aboutNearest_44 (lv_at hl 0 rfl) ?_
            refine lv_iconst (v := 1) hx hb d_T_aboutNearest_46 (by decide) ?_
            refine lv_icmp_gt (tgt := 113) hx hb d_T_aboutNearest_47 (by decide) (fun q => absurd q (by decide)) (fun _ => ?_)
            refine st i j 0 q hi (by omega) (by omega) (fun _ ls hl => ?_) _ (lv_sub hl [1, 2, 3, 4, 0, 5, 6] rfl)
            refine lv_iinc (v := 1) (lv' := [(6, .int 1), (2, .int (nst g x i j 0 q).1), (3, .int (nst g x i j 0 q).2), (4, .int (nI i)), (5, .int (nI j)), (0, .ref (t 0)), (1, .int x)]) hx hb d_T_aboutNearest_107 hl (k := 4) rfl (by decide) (by decide) rfl (fun ls hl => ?_)
            refine lv_goto (tgt := 44) hx hb d_T_aboutNearest_110 (by decide) ?_
            refine lv_iload hx hb d_T_aboutNearest_44 (lv_at hl 0 rfl) ?_
            refine lv_iconst (v := 1) hx hb d_T_aboutNearest_46 (by decide) ?_
            refine lv_icmp_gt (tgt := 113) hx hb d_T_aboutNearest_47 (by decide) (fun q => absurd q (by decide)) (fun _ => ?_)
            refine st i j 1 _ hi (by omega) (by omega) (fun _ ls hl => ?_) _ (lv_sub hl [1, 2, 3, 4, 0, 5, 6] rfl)
            refine lv_iinc (v := 2) (lv' := [(6, .int 2), (2, .int (nst g x i j 1 (nst g x i j 0 q)).1), (3, .int (nst g x i j 1 (nst g x i j 0 q)).2), (4, .int (nI i)), (5, .int (nI j)), (0, .ref (t 0)), (1, .int x)]) hx hb d_T_aboutNearest_107 hl (k := 4) rfl (by decide) (by decide) rfl (fun ls hl => ?_)
            refine lv_goto (tgt := 44) hx hb d_T_aboutNearest_110 (by decide) ?_
            refine lv_iload hx hb d_T_aboutNearest_44 (lv_at hl 0 rfl) ?_
            refine lv_iconst (v := 1) hx hb d_T_aboutNearest_46 (by decide) ?_
            refine lv_icmp_gt (tgt := 113) hx hb d_T_aboutNearest_47 (by decide) (fun _ => ?_) (fun q => absurd (by decide) q)
            refine lv_iinc (v := nI (j + 1)) (lv' := [(5, .int (nI (j + 1))), (6, .int 2), (2, .int (nst g x i j 1 (nst g x i j 0 q)).1), (3, .int (nst g x i j 1 (nst g x i j 0 q)).2), (4, .int (nI i)), (0, .ref (t 0)), (1, .int x)]) hx hb d_T_aboutNearest_113 hl (k := 4) rfl (nI_1 j) (by decide) rfl (fun ls hl => ?_)
            refine lv_goto (tgt := 29) hx hb d_T_aboutNearest_116 (by decide) ?_
            refine ih (j + 1) _ (by omega) (by omega) ?_ _ (lv_sub hl [2, 3, 4, 0, 5, 6] rfl)
            rw [hE, show bn g i - j = (bn g i - (j + 1)) + 1 by omega]
            rfl
      suffices lp : ∀ (k i : Nat) (q : Int32 × Int32), 2 - i < k → i ≤ 2 → (nsf g x 2 0 (-1, -6)) = nsf g x (2 - i) i q → ∀ ls : Array Slot, lv_has ls 8 [(2, .int q.1), (3, .int q.2), (4, .int (nI i)), (0, .ref (t 0)), (1, .int x)] → W p l e (rm 5 115 0 0) s m args below meth c s.heap [] 0 0 Q (F0 m 20 ls []) from lp 3 0 (-1, -6) (by omega) (by omega) rfl _ (lv_sub hl [2, 1, 0, 3, 4] rfl)
      intro k
      induction k with
      | zero => intro i q hi; omega
      | succ k ih =>
        intro i q hi hin hE ls hl
        refine lv_iload hx hb d_T_aboutNearest_20 (lv_at hl 2 rfl) ?_
        refine lv_iconst (v := 2) hx hb d_T_aboutNearest_22 (by decide) ?_
        refine lv_icmp_ge (tgt := 125) hx hb d_T_aboutNearest_23 (by decide) (fun c_23 => ?_) (fun c_23 => ?_)
        · have e_23 : 2 ≤ i := le_of_nI (by omega) (by omega) (show nI 2 ≤ nI i from c_23)
          obtain rfl : i = 2 := by omega
          refine lv_iload_n hx hb d_T_aboutNearest_125 rfl (lv_at hl 1 rfl) ?_
          exact hret _ _ _ d_T_aboutNearest_126 rfl (by
            simp only [nsr, c_1, c_6, ↓reduceIte]
            rw [hE]; rfl)
        · have e_23 : i < 2 := nle_lt (by omega) (by omega) (show ¬ nI 2 ≤ nI i from c_23)
          refine lv_iconst (v := 0) hx hb d_T_aboutNearest_26 (by decide) ?_
          refine lv_istore (lv' := [(5, .int 0), (2, .int q.1), (3, .int q.2), (4, .int (nI i)), (0, .ref (t 0)), (1, .int x)]) hx hb d_T_aboutNearest_27 hl (by decide) rfl (fun ls hl => ?_)
          refine lb i e_23 (fun _ _ _ => trivial) (fun q ls hl hE => ?_) (bn g i + 1) 0 q (by omega) (by omega) ?_ _ (lv_sub hl [1, 2, 3, 0, 4, 5] rfl)
          · refine lv_iinc (v := nI (i + 1)) (lv' := [(4, .int (nI (i + 1))), (2, .int q.1), (3, .int q.2), (0, .ref (t 0)), (1, .int x)]) hx hb d_T_aboutNearest_119 hl (k := 2) rfl (nI_1 i) (by decide) rfl (fun ls hl => ?_)
            refine lv_goto (tgt := 20) hx hb d_T_aboutNearest_122 (by decide) ?_
            refine ih (i + 1) q (by omega) (by omega) ?_ _ (lv_sub hl [1, 2, 0, 3, 4] rfl)
            rw [hE, show 2 - (i + 1) = 1 - i by omega]
          · rw [hE, show 2 - i = (1 - i) + 1 by omega]
            rfl
    · refine lv_bipush (v := (-2)) hx hb d_T_aboutNearest_9 (by decide) ?_
      exact hret _ _ _ d_T_aboutNearest_11 rfl (by first | (simp only [nsr, c_1, c_6, ↓reduceIte]; done) | (simp only [nsr, c_1, c_6, ↓reduceIte]; rfl) | rfl)
end
section
theorem cpy_tb {g g2 : Nat → Int32} : va_cpy (tb g2) (tb g) 0 0 2 = tb g2 := funext fun j => by
  unfold va_cpy
  by_cases h : 0 ≤ j ∧ j < 0 + 2
  · rw [if_pos h]; congr 1; omega
  · rw [if_neg h]; unfold tb; rw [if_neg (by omega), if_neg (by omega)]
theorem cpy_td {g g2 : Nat → Int32} {k : Nat} : va_cpy (td k g2) (td k g) 0 0 40 = td k g2 := funext fun j => by
  unfold va_cpy
  by_cases h : 0 ≤ j ∧ j < 0 + 40
  · rw [if_pos h]; congr 1; omega
  · rw [if_neg h]; unfold td; rw [if_neg (by omega), if_neg (by omega)]
set_option maxHeartbeats 4000000 in
set_option maxRecDepth 100000 in
theorem c_T_setFeet (l : Launch) (D : va_G) (ca : Nat → ClassId) (t : Nat → Nat) (g : Nat → Int32) (x : Int32) (hB : BN g): MI l y_T_setFeet b_T_setFeet 3 (some .int) 1 30 D ca [.ref (t 0), .int x] (tw ca t g) ((s_len g x).1) (tw ca t ((s_len g x).2)) := by
  refine MI.mk (ty := .int) rfl rfl (Nat.le_of_ble_eq_true rfl) ?_
  intro p e s m args below meth c Q A S hA hP hD hK
  obtain ⟨hx, hb, hml, hown, hts⟩ := id S
  intro hret ls hl0 hS
  have hl : lv_has ls 3 [(0, .ref (t 0)), (1, .int x)] := hl0
  refine lv_iload_n hx hb d_T_setFeet_0 rfl (lv_at hl 1 rfl) ?_
  refine lv_bipush (v := 100) hx hb d_T_setFeet_1 (by decide) ?_
  refine lv_icmp_lt (tgt := 13) hx hb d_T_setFeet_3 (by decide) (fun c_3 => ?_) (fun c_3 => ?_)
  · refine lv_bipush (v := (-2)) hx hb d_T_setFeet_13 (by decide) ?_
    exact hret _ _ _ _ _ _ d_T_setFeet_15 rfl (by first | (simp only [s_len, c_3, ↓reduceIte]; done) | (simp only [s_len, c_3, ↓reduceIte]; rfl) | rfl) (by first | (simp only [s_len, c_3, ↓reduceIte]; done) | (simp only [s_len, c_3, ↓reduceIte]; rfl) | rfl) hP hD hS
  · refine lv_iload_n hx hb d_T_setFeet_6 rfl (lv_at hl 1 rfl) ?_
    refine lv_sipush (v := 2000) hx hb d_T_setFeet_7 (by decide) ?_
    refine lv_icmp_le (tgt := 16) hx hb d_T_setFeet_10 (by decide) (fun c_10 => ?_) (fun c_10 => ?_)
    · refine lv_aload_n hx hb d_T_setFeet_16 rfl (lv_at hl 0 rfl) ?_
      refine T_ro S (c_T_allBlocks l D ca t g  hB) k_T_58 rfl hP hK rfl rfl hl.1 ⟨Nat.le_of_ble_eq_true rfl, Nat.le_of_ble_eq_true rfl⟩ ⟨Nat.zero_le _, Nat.zero_le _⟩ (Nat.le_of_ble_eq_true rfl) d_T_setFeet_17 ?_
      refine lv_if_gt (tgt := 30) hx hb d_T_setFeet_20 (by decide) (fun c_20 => ?_) (fun c_20 => ?_)
      · refine lv_bipush (v := (-5)) hx hb d_T_setFeet_30 (by decide) ?_
        exact hret _ _ _ _ _ _ d_T_setFeet_32 rfl (by first | (simp only [s_len, c_3, c_10, c_20, ↓reduceIte]; done) | (simp only [s_len, c_3, c_10, c_20, ↓reduceIte]; rfl) | rfl) (by first | (simp only [s_len, c_3, c_10, c_20, ↓reduceIte]; done) | (simp only [s_len, c_3, c_10, c_20, ↓reduceIte]; rfl) | rfl) hP hD hS
      · refine lv_aload_n hx hb d_T_setFeet_23 rfl (lv_at hl 0 rfl) ?_
        refine f_get S cls_T hK hP 0 rfl 4 (by decide) fl_T_splices rfl rfl d_T_setFeet_24 ?_
        refine lv_if_le (tgt := 33) hx hb d_T_setFeet_27 (by decide) (fun c_27 => ?_) (fun c_27 => ?_)
        · refine lv_aload_n hx hb d_T_setFeet_33 rfl (lv_at hl 0 rfl) ?_
          refine f_get S cls_T hK hP 0 rfl 0 (by decide) fl_T_feet rfl rfl d_T_setFeet_34 ?_
          refine lv_istore_n (lv' := [(2, .int (g 0)), (0, .ref (t 0)), (1, .int x)]) hx hb d_T_setFeet_37 rfl hl (by decide) rfl (fun ls hl => ?_)
          refine lv_aload_n hx hb d_T_setFeet_38 rfl (lv_at hl 1 rfl) ?_
          refine lv_iload_n hx hb d_T_setFeet_39 rfl (lv_at hl 2 rfl) ?_
          refine T_put S hK hP hD hS 0 (by decide) fl_T_feet d_T_setFeet_40 (fun H locs hP hD hS => ?_)
          obtain ⟨g1, hg1⟩ : ∃ z : Nat → Int32, z = upd g 0 x := ⟨_, rfl⟩
          rw [← hg1] at hP hD
          refine lv_aload_n hx hb d_T_setFeet_43 rfl (lv_at hl 1 rfl) ?_
          refine lv_aload_n hx hb d_T_setFeet_44 rfl (lv_at hl 1 rfl) ?_
          refine f_get S cls_T hK hP 0 rfl 3 (by decide) fl_T_head rfl rfl d_T_setFeet_45 ?_
          refine lv_aload_n hx hb d_T_setFeet_48 rfl (lv_at hl 1 rfl) ?_
          refine f_get S cls_T hK hP 0 rfl 0 (by decide) fl_T_feet rfl rfl d_T_setFeet_49 ?_
          refine va_mmin hx hb (hml.trans hl.1.symm) hown (hts _ kx_T_62) (hts _ xs_Math_min) (hts _ in_java_lang_Math) (hts _ xc_Math_min) (Nat.le_of_ble_eq_true rfl) (Nat.le_of_ble_eq_true rfl) (Nat.zero_le _) (Nat.zero_le _) d_T_setFeet_52 ?_
          refine lv_tope (z := mn2 (g1 3) (g1 0)) rfl ?_
          refine T_put S hK hP hD hS 3 (by decide) fl_T_head d_T_setFeet_55 (fun H locs hP hD hS => ?_)
          obtain ⟨g2, hg2⟩ : ∃ z : Nat → Int32, z = upd g1 3 (mn2 (g1 3) (g1 0)) := ⟨_, rfl⟩
          rw [← hg2] at hP hD
          refine lv_iload_n hx hb d_T_setFeet_58 rfl (lv_at hl 0 rfl) ?_
          exact hret _ _ _ _ _ _ d_T_setFeet_59 rfl (by subst hg1 hg2; first | (simp only [s_len, c_3, c_10, c_20, c_27, ↓reduceIte]; done) | (simp only [s_len, c_3, c_10, c_20, c_27, ↓reduceIte]; rfl) | rfl) (by subst hg1 hg2; first | (simp only [s_len, c_3, c_10, c_20, c_27, ↓reduceIte]; done) | (simp only [s_len, c_3, c_10, c_20, c_27, ↓reduceIte]; rfl) | rfl) hP hD hS
        · refine lv_bipush (v := (-5)) hx hb d_T_setFeet_30 (by decide) ?_
          exact hret _ _ _ _ _ _ d_T_setFeet_32 rfl (by first | (simp only [s_len, c_3, c_10, c_20, c_27, ↓reduceIte]; done) | (simp only [s_len, c_3, c_10, c_20, c_27, ↓reduceIte]; rfl) | rfl) (by first | (simp only [s_len, c_3, c_10, c_20, c_27, ↓reduceIte]; done) | (simp only [s_len, c_3, c_10, c_20, c_27, ↓reduceIte]; rfl) | rfl) hP hD hS
    · refine lv_bipush (v := (-2)) hx hb d_T_setFeet_13 (by decide) ?_
      exact hret _ _ _ _ _ _ d_T_setFeet_15 rfl (by first | (simp only [s_len, c_3, c_10, ↓reduceIte]; done) | (simp only [s_len, c_3, c_10, ↓reduceIte]; rfl) | rfl) (by first | (simp only [s_len, c_3, c_10, ↓reduceIte]; done) | (simp only [s_len, c_3, c_10, ↓reduceIte]; rfl) | rfl) hP hD hS
set_option maxHeartbeats 4000000 in
set_option maxRecDepth 100000 in
theorem c_T_setGapAndMark (l : Launch) (D : va_G) (ca : Nat → ClassId) (t : Nat → Nat) (g : Nat → Int32) (x y : Int32) (hB : BN g): MI l y_T_setGapAndMark b_T_setGapAndMark 4 (some .int) 3 66 D ca [.ref (t 0), .int x, .int y] (tw ca t g) ((s_tun g x y).1) (tw ca t ((s_tun g x y).2)) := by
  refine MI.mk (ty := .int) rfl rfl (Nat.le_of_ble_eq_true rfl) ?_
  intro p e s m args below meth c Q A S hA hP hD hK
  obtain ⟨hx, hb, hml, hown, hts⟩ := id S
  intro hret ls hl0 hS
  have hl : lv_has ls 4 [(0, .ref (t 0)), (1, .int x), (2, .int y)] := hl0
  refine lv_iload_n hx hb d_T_setGapAndMark_0 rfl (lv_at hl 1 rfl) ?_
  refine lv_iconst (v := 1) hx hb d_T_setGapAndMark_1 (by decide) ?_
  refine lv_icmp_lt (tgt := 22) hx hb d_T_setGapAndMark_2 (by decide) (fun c_2 => ?_) (fun c_2 => ?_)
  · refine lv_bipush (v := (-2)) hx hb d_T_setGapAndMark_22 (by decide) ?_
    exact hret _ _ _ _ _ _ d_T_setGapAndMark_24 rfl (by first | (simp only [s_tun, c_2, ↓reduceIte]; done) | (simp only [s_tun, c_2, ↓reduceIte]; rfl) | rfl) (by first | (simp only [s_tun, c_2, ↓reduceIte]; done) | (simp only [s_tun, c_2, ↓reduceIte]; rfl) | rfl) hP hD hS
  · refine lv_iload_n hx hb d_T_setGapAndMark_5 rfl (lv_at hl 1 rfl) ?_
    refine lv_bipush (v := 99) hx hb d_T_setGapAndMark_6 (by decide) ?_
    refine lv_icmp_gt (tgt := 22) hx hb d_T_setGapAndMark_8 (by decide) (fun c_8 => ?_) (fun c_8 => ?_)
    · refine lv_bipush (v := (-2)) hx hb d_T_setGapAndMark_22 (by decide) ?_
      exact hret _ _ _ _ _ _ d_T_setGapAndMark_24 rfl (by first | (simp only [s_tun, c_2, c_8, ↓reduceIte]; done) | (simp only [s_tun, c_2, c_8, ↓reduceIte]; rfl) | rfl) (by first | (simp only [s_tun, c_2, c_8, ↓reduceIte]; done) | (simp only [s_tun, c_2, c_8, ↓reduceIte]; rfl) | rfl) hP hD hS
    · refine lv_iload_n hx hb d_T_setGapAndMark_11 rfl (lv_at hl 2 rfl) ?_
      refine lv_iconst (v := 1) hx hb d_T_setGapAndMark_12 (by decide) ?_
      refine lv_icmp_lt (tgt := 22) hx hb d_T_setGapAndMark_13 (by decide) (fun c_13 => ?_) (fun c_13 => ?_)
      · refine lv_bipush (v := (-2)) hx hb d_T_setGapAndMark_22 (by decide) ?_
        exact hret _ _ _ _ _ _ d_T_setGapAndMark_24 rfl (by first | (simp only [s_tun, c_2, c_8, c_13, ↓reduceIte]; done) | (simp only [s_tun, c_2, c_8, c_13, ↓reduceIte]; rfl) | rfl) (by first | (simp only [s_tun, c_2, c_8, c_13, ↓reduceIte]; done) | (simp only [s_tun, c_2, c_8, c_13, ↓reduceIte]; rfl) | rfl) hP hD hS
      · refine lv_iload_n hx hb d_T_setGapAndMark_16 rfl (lv_at hl 2 rfl) ?_
        refine lv_bipush (v := 9) hx hb d_T_setGapAndMark_17 (by decide) ?_
        refine lv_icmp_le (tgt := 25) hx hb d_T_setGapAndMark_19 (by decide) (fun c_19 => ?_) (fun c_19 => ?_)
        · refine lv_aload_n hx hb d_T_setGapAndMark_25 rfl (lv_at hl 0 rfl) ?_
          refine T_ro S (c_T_gap l D ca t g  hB) k_T_68 rfl hP hK rfl rfl hl.1 ⟨Nat.le_of_ble_eq_true rfl, Nat.le_of_ble_eq_true rfl⟩ ⟨Nat.zero_le _, Nat.zero_le _⟩ (Nat.le_of_ble_eq_true rfl) d_T_setGapAndMark_26 ?_
          refine lv_iload_n hx hb d_T_setGapAndMark_29 rfl (lv_at hl 1 rfl) ?_
          refine lv_icmp_ge (tgt := 36) hx hb d_T_setGapAndMark_30 (by decide) (fun c_30 => ?_) (fun c_30 => ?_)
          · refine lv_aload_n hx hb d_T_setGapAndMark_36 rfl (lv_at hl 0 rfl) ?_
            refine f_get S cls_T hK hP 0 rfl 1 (by decide) fl_T_leastGap rfl rfl d_T_setGapAndMark_37 ?_
            refine lv_bipush (v := 100) hx hb d_T_setGapAndMark_40 (by decide) ?_
            refine lv_aload_n hx hb d_T_setGapAndMark_42 rfl (lv_at hl 0 rfl) ?_
            refine f_get S cls_T hK hP 0 rfl 2 (by decide) fl_T_mark rfl rfl d_T_setGapAndMark_43 ?_
            refine lv_imul hx hb d_T_setGapAndMark_46 ?_
            refine lv_iadd hx hb d_T_setGapAndMark_47 ?_
            refine lv_istore_n (lv' := [(3, .int ((g 1) + (100 * (g 2)))), (0, .ref (t 0)), (1, .int x), (2, .int y)]) hx hb d_T_setGapAndMark_48 rfl hl (by decide) rfl (fun ls hl => ?_)
            refine lv_aload_n hx hb d_T_setGapAndMark_49 rfl (lv_at hl 1 rfl) ?_
            refine lv_iload_n hx hb d_T_setGapAndMark_50 rfl (lv_at hl 2 rfl) ?_
            refine T_put S hK hP hD hS 1 (by decide) fl_T_leastGap d_T_setGapAndMark_51 (fun H locs hP hD hS => ?_)
            obtain ⟨g1, hg1⟩ : ∃ z : Nat → Int32, z = upd g 1 x := ⟨_, rfl⟩
            rw [← hg1] at hP hD
            refine lv_aload_n hx hb d_T_setGapAndMark_54 rfl (lv_at hl 1 rfl) ?_
            refine lv_iload_n hx hb d_T_setGapAndMark_55 rfl (lv_at hl 3 rfl) ?_
            refine T_put S hK hP hD hS 2 (by decide) fl_T_mark d_T_setGapAndMark_56 (fun H locs hP hD hS => ?_)
            obtain ⟨g2, hg2⟩ : ∃ z : Nat → Int32, z = upd g1 2 y := ⟨_, rfl⟩
            rw [← hg2] at hP hD
            refine lv_iload_n hx hb d_T_setGapAndMark_59 rfl (lv_at hl 0 rfl) ?_
            exact hret _ _ _ _ _ _ d_T_setGapAndMark_60 rfl (by subst hg1 hg2; first | (simp only [s_tun, c_2, c_8, c_13, c_19, c_30, ↓reduceIte]; done) | (simp only [s_tun, c_2, c_8, c_13, c_19, c_30, ↓reduceIte]; rfl) | rfl) (by subst hg1 hg2; first | (simp only [s_tun, c_2, c_8, c_13, c_19, c_30, ↓reduceIte]; done) | (simp only [s_tun, c_2, c_8, c_13, c_19, c_30, ↓reduceIte]; rfl) | rfl) hP hD hS
          · refine lv_bipush (v := (-5)) hx hb d_T_setGapAndMark_33 (by decide) ?_
            exact hret _ _ _ _ _ _ d_T_setGapAndMark_35 rfl (by first | (simp only [s_tun, c_2, c_8, c_13, c_19, c_30, ↓reduceIte]; done) | (simp only [s_tun, c_2, c_8, c_13, c_19, c_30, ↓reduceIte]; rfl) | rfl) (by first | (simp only [s_tun, c_2, c_8, c_13, c_19, c_30, ↓reduceIte]; done) | (simp only [s_tun, c_2, c_8, c_13, c_19, c_30, ↓reduceIte]; rfl) | rfl) hP hD hS
        · refine lv_bipush (v := (-2)) hx hb d_T_setGapAndMark_22 (by decide) ?_
          exact hret _ _ _ _ _ _ d_T_setGapAndMark_24 rfl (by first | (simp only [s_tun, c_2, c_8, c_13, c_19, ↓reduceIte]; done) | (simp only [s_tun, c_2, c_8, c_13, c_19, ↓reduceIte]; rfl) | rfl) (by first | (simp only [s_tun, c_2, c_8, c_13, c_19, ↓reduceIte]; done) | (simp only [s_tun, c_2, c_8, c_13, c_19, ↓reduceIte]; rfl) | rfl) hP hD hS
set_option maxHeartbeats 4000000 in
set_option maxRecDepth 100000 in
theorem c_T_addBlock (l : Launch) (D : va_G) (ca : Nat → ClassId) (t : Nat → Nat) (g : Nat → Int32) (x d u : Int32) (hB : BN g): MI l y_T_addBlock b_T_addBlock 6 (some .int) 3 68 D ca [.ref (t 0), .int x, .int d, .int u] (tw ca t g) ((s_add g x d u).1) (tw ca t ((s_add g x d u).2)) := by
  refine MI.mk (ty := .int) rfl rfl (Nat.le_of_ble_eq_true rfl) ?_
  intro p e s m args below meth c Q A S hA hP hD hK
  obtain ⟨hx, hb, hml, hown, hts⟩ := id S
  intro hret ls hl0 hS
  have hl : lv_has ls 6 [(0, .ref (t 0)), (1, .int x), (2, .int d), (3, .int u)] := hl0
  refine lv_aload_n hx hb d_T_addBlock_0 rfl (lv_at hl 0 rfl) ?_
  refine lv_iload_n hx hb d_T_addBlock_1 rfl (lv_at hl 1 rfl) ?_
  refine T_ro0 S (c_T_isFile l D ca (t 0) x ) k_T_71 rfl hP hK rfl rfl hl.1 ⟨Nat.le_of_ble_eq_true rfl, Nat.le_of_ble_eq_true rfl⟩ ⟨Nat.zero_le _, Nat.zero_le _⟩ (Nat.le_of_ble_eq_true rfl) d_T_addBlock_2 ?_
  refine lv_if_ne (tgt := 10) hx hb d_T_addBlock_5 (by decide) (fun c_5 => ?_) (fun c_5 => ?_)
  · obtain ⟨f, hf, rfl⟩ := isf_of c_5
    have hcl : (nI f).toNatClampNeg = f := nI_clamp (by omega)
    have hn20 := (hB f hf).2
    refine lv_iload_n hx hb d_T_addBlock_10 rfl (lv_at hl 2 rfl) ?_
    refine lv_iconst (v := 1) hx hb d_T_addBlock_11 (by decide) ?_
    refine lv_icmp_lt (tgt := 32) hx hb d_T_addBlock_12 (by decide) (fun c_12 => ?_) (fun c_12 => ?_)
    · refine lv_bipush (v := (-2)) hx hb d_T_addBlock_32 (by decide) ?_
      exact hret _ _ _ _ _ _ d_T_addBlock_34 rfl (by first | (simp only [s_add, c_5, hcl, c_12, ↓reduceIte]; done) | (simp only [s_add, c_5, hcl, c_12, ↓reduceIte]; rfl) | rfl) (by first | (simp only [s_add, c_5, hcl, c_12, ↓reduceIte]; done) | (simp only [s_add, c_5, hcl, c_12, ↓reduceIte]; rfl) | rfl) hP hD hS
    · refine lv_iload_n hx hb d_T_addBlock_15 rfl (lv_at hl 2 rfl) ?_
      refine lv_bipush (v := 99) hx hb d_T_addBlock_16 (by decide) ?_
      refine lv_icmp_gt (tgt := 32) hx hb d_T_addBlock_18 (by decide) (fun c_18 => ?_) (fun c_18 => ?_)
      · refine lv_bipush (v := (-2)) hx hb d_T_addBlock_32 (by decide) ?_
        exact hret _ _ _ _ _ _ d_T_addBlock_34 rfl (by first | (simp only [s_add, c_5, hcl, c_12, c_18, ↓reduceIte]; done) | (simp only [s_add, c_5, hcl, c_12, c_18, ↓reduceIte]; rfl) | rfl) (by first | (simp only [s_add, c_5, hcl, c_12, c_18, ↓reduceIte]; done) | (simp only [s_add, c_5, hcl, c_12, c_18, ↓reduceIte]; rfl) | rfl) hP hD hS
      · refine lv_iload_n hx hb d_T_addBlock_21 rfl (lv_at hl 3 rfl) ?_
        refine lv_if_lt (tgt := 32) hx hb d_T_addBlock_22 (by decide) (fun c_22 => ?_) (fun c_22 => ?_)
        · refine lv_bipush (v := (-2)) hx hb d_T_addBlock_32 (by decide) ?_
          exact hret _ _ _ _ _ _ d_T_addBlock_34 rfl (by first | (simp only [s_add, c_5, hcl, c_12, c_18, c_22, ↓reduceIte]; done) | (simp only [s_add, c_5, hcl, c_12, c_18, c_22, ↓reduceIte]; rfl) | rfl) (by first | (simp only [s_add, c_5, hcl, c_12, c_18, c_22, ↓reduceIte]; done) | (simp only [s_add, c_5, hcl, c_12, c_18, c_22, ↓reduceIte]; rfl) | rfl) hP hD hS
        · refine lv_iload_n hx hb d_T_addBlock_25 rfl (lv_at hl 3 rfl) ?_
          refine lv_sipush (v := 9999) hx hb d_T_addBlock_26 (by decide) ?_
          refine lv_icmp_le (tgt := 35) hx hb d_T_addBlock_29 (by decide) (fun c_29 => ?_) (fun c_29 => ?_)
          · refine lv_aload_n hx hb d_T_addBlock_35 rfl (lv_at hl 0 rfl) ?_
            refine f_get S cls_T hK hP 0 rfl 8 (by decide) fl_T_blocks rfl rfl d_T_addBlock_36 ?_
            refine lv_iload_n hx hb d_T_addBlock_39 rfl (lv_at hl 1 rfl) ?_
            refine T_bl S hK hP hB (f := f) (by omega) rfl d_T_addBlock_40 ?_
            refine lv_bipush (v := 20) hx hb d_T_addBlock_41 (by decide) ?_
            refine lv_icmp_lt (tgt := 49) hx hb d_T_addBlock_43 (by decide) (fun c_43 => ?_) (fun c_43 => ?_)
            · have e_43 : bn g f < 20 := nlt_lt (by omega) (by omega) (show nI (bn g f) < nI 20 from c_43)
              refine lv_aload_n hx hb d_T_addBlock_49 rfl (lv_at hl 0 rfl) ?_
              refine T_ro S (c_T_gap l D ca t g  hB) k_T_68 rfl hP hK rfl rfl hl.1 ⟨Nat.le_of_ble_eq_true rfl, Nat.le_of_ble_eq_true rfl⟩ ⟨Nat.zero_le _, Nat.zero_le _⟩ (Nat.le_of_ble_eq_true rfl) d_T_addBlock_50 ?_
              refine lv_iload_n hx hb d_T_addBlock_53 rfl (lv_at hl 2 rfl) ?_
              refine lv_iconst (v := 2) hx hb d_T_addBlock_54 (by decide) ?_
              refine lv_aload_n hx hb d_T_addBlock_55 rfl (lv_at hl 0 rfl) ?_
              refine f_get S cls_T hK hP 0 rfl 2 (by decide) fl_T_mark rfl rfl d_T_addBlock_56 ?_
              refine lv_imul hx hb d_T_addBlock_59 ?_
              refine lv_iadd hx hb d_T_addBlock_60 ?_
              refine lv_isub hx hb d_T_addBlock_61 ?_
              refine lv_aload_n hx hb d_T_addBlock_62 rfl (lv_at hl 0 rfl) ?_
              refine f_get S cls_T hK hP 0 rfl 1 (by decide) fl_T_leastGap rfl rfl d_T_addBlock_63 ?_
              refine lv_icmp_ge (tgt := 72) hx hb d_T_addBlock_66 (by decide) (fun c_66 => ?_) (fun c_66 => ?_)
              · refine lv_aload_n hx hb d_T_addBlock_72 rfl (lv_at hl 0 rfl) ?_
                refine lv_aload_n hx hb d_T_addBlock_73 rfl (lv_at hl 0 rfl) ?_
                refine lv_iload_n hx hb d_T_addBlock_74 rfl (lv_at hl 1 rfl) ?_
                refine T_ro S (c_T_endInGap l D ca t g f hB (by omega)) k_T_75 rfl hP hK rfl rfl hl.1 ⟨Nat.le_of_ble_eq_true rfl, Nat.le_of_ble_eq_true rfl⟩ ⟨Nat.zero_le _, Nat.zero_le _⟩ (Nat.le_of_ble_eq_true rfl) d_T_addBlock_75 ?_
                refine T_mi S (c_T_travelTo l D ca t g (en g f) ) k_T_79 rfl hP hD hS hA hK rfl rfl hl.1 ⟨Nat.le_of_ble_eq_true rfl, Nat.le_of_ble_eq_true rfl⟩ ⟨Nat.zero_le _, Nat.zero_le _⟩ (Nat.le_of_ble_eq_true rfl) d_T_addBlock_78 (fun H locs hP hD hS => ?_)
                obtain ⟨g1, hg1⟩ : ∃ z : Nat → Int32, z = tv g (en g f) := ⟨_, rfl⟩
                rw [← hg1] at hP hD
                have hB1 : BN g1 := by rw [hg1]; exact BN_tv hB
                have hb1 : bn g1 f = bn g f := by rw [hg1]; exact bn_tv hf
                refine lv_pop hx hb d_T_addBlock_81 rfl ?_
                refine lv_aload_n hx hb d_T_addBlock_82 rfl (lv_at hl 0 rfl) ?_
                refine f_get S cls_T hK hP 0 rfl 8 (by decide) fl_T_blocks rfl rfl d_T_addBlock_83 ?_
                refine lv_iload_n hx hb d_T_addBlock_86 rfl (lv_at hl 1 rfl) ?_
                refine T_bl S hK hP hB1 (f := f) (by omega) rfl d_T_addBlock_87 ?_
                refine lv_tope (z := nI (bn g f)) (by rw [hb1]) ?_
                refine lv_istore (lv' := [(4, .int (nI (bn g f))), (0, .ref (t 0)), (1, .int (nI f)), (2, .int d), (3, .int u)]) hx hb d_T_addBlock_88 hl (by decide) rfl (fun ls hl => ?_)
                refine lv_aload_n hx hb d_T_addBlock_90 rfl (lv_at hl 1 rfl) ?_
                refine lv_iload_n hx hb d_T_addBlock_91 rfl (lv_at hl 2 rfl) ?_
                refine lv_iload hx hb d_T_addBlock_92 (lv_at hl 0 rfl) ?_
                refine T_ro0 S (c_T_rowOf l D ca (t 0) f (bn g f) ) k_T_82 rfl hP hK rfl rfl hl.1 ⟨Nat.le_of_ble_eq_true rfl, Nat.le_of_ble_eq_true rfl⟩ ⟨Nat.zero_le _, Nat.zero_le _⟩ (Nat.le_of_ble_eq_true rfl) d_T_addBlock_94 ?_
                refine lv_istore (lv' := [(5, .int (nI (f * 20 + (bn g f)))), (4, .int (nI (bn g f))), (0, .ref (t 0)), (1, .int (nI f)), (2, .int d), (3, .int u)]) hx hb d_T_addBlock_97 hl (by decide) rfl (fun ls hl => ?_)
                refine lv_aload_n hx hb d_T_addBlock_99 rfl (lv_at hl 2 rfl) ?_
                refine f_get S cls_T hK hP 0 rfl 9 (by decide) fl_T_data rfl rfl d_T_addBlock_100 ?_
                refine lv_iload hx hb d_T_addBlock_103 (lv_at hl 0 rfl) ?_
                refine lv_iload_n hx hb d_T_addBlock_105 rfl (lv_at hl 4 rfl) ?_
                refine T_arst 0 (by decide) S hK hP hD hS (r := f * 20 + (bn g f)) (by omega) rfl d_T_addBlock_106 (fun H locs hP hD hS => ?_)
                obtain ⟨g2, hg2⟩ : ∃ z : Nat → Int32, z = upd g1 (10 + 4 * (f * 20 + (bn g f)) + 0) d := ⟨_, rfl⟩
                rw [← hg2] at hP hD
                refine lv_aload_n hx hb d_T_addBlock_107 rfl (lv_at hl 2 rfl) ?_
                refine f_get S cls_T hK hP 0 rfl 10 (by decide) fl_T_sums rfl rfl d_T_addBlock_108 ?_
                refine lv_iload hx hb d_T_addBlock_111 (lv_at hl 0 rfl) ?_
                refine lv_iload_n hx hb d_T_addBlock_113 rfl (lv_at hl 5 rfl) ?_
                refine T_arst 1 (by decide) S hK hP hD hS (r := f * 20 + (bn g f)) (by omega) rfl d_T_addBlock_114 (fun H locs hP hD hS => ?_)
                obtain ⟨g3, hg3⟩ : ∃ z : Nat → Int32, z = upd g2 (10 + 4 * (f * 20 + (bn g f)) + 1) u := ⟨_, rfl⟩
                rw [← hg3] at hP hD
                refine lv_aload_n hx hb d_T_addBlock_115 rfl (lv_at hl 2 rfl) ?_
                refine f_get S cls_T hK hP 0 rfl 11 (by decide) fl_T_marks rfl rfl d_T_addBlock_116 ?_
                refine lv_iload hx hb d_T_addBlock_119 (lv_at hl 0 rfl) ?_
                refine lv_aload_n hx hb d_T_addBlock_121 rfl (lv_at hl 2 rfl) ?_
                refine f_get S cls_T hK hP 0 rfl 2 (by decide) fl_T_mark rfl rfl d_T_addBlock_122 ?_
                refine T_arst 2 (by decide) S hK hP hD hS (r := f * 20 + (bn g f)) (by omega) rfl d_T_addBlock_125 (fun H locs hP hD hS => ?_)
                obtain ⟨g4, hg4⟩ : ∃ z : Nat → Int32, z = upd g3 (10 + 4 * (f * 20 + (bn g f)) + 2) (g3 2) := ⟨_, rfl⟩
                rw [← hg4] at hP hD
                refine lv_aload_n hx hb d_T_addBlock_126 rfl (lv_at hl 2 rfl) ?_
                refine f_get S cls_T hK hP 0 rfl 12 (by decide) fl_T_timesRead rfl rfl d_T_addBlock_127 ?_
                refine lv_iload hx hb d_T_addBlock_130 (lv_at hl 0 rfl) ?_
                refine lv_iconst (v := 0) hx hb d_T_addBlock_132 (by decide) ?_
                refine T_arst 3 (by decide) S hK hP hD hS (r := f * 20 + (bn g f)) (by omega) rfl d_T_addBlock_133 (fun H locs hP hD hS => ?_)
                obtain ⟨g5, hg5⟩ : ∃ z : Nat → Int32, z = upd g4 (10 + 4 * (f * 20 + (bn g f)) + 3) 0 := ⟨_, rfl⟩
                rw [← hg5] at hP hD
                have hB5 : BN g5 := by rw [hg5, hg4, hg3, hg2]; exact BN_up (by omega) (BN_up (by omega) (BN_up (by omega) (BN_up (by omega) hB1)))
                have hb5 : bn g5 f = bn g f := by rw [hg5, hg4, hg3, hg2, bn_up hf (by omega), bn_up hf (by omega), bn_up hf (by omega), bn_up hf (by omega), hb1]
                refine lv_aload_n hx hb d_T_addBlock_134 rfl (lv_at hl 2 rfl) ?_
                refine f_get S cls_T hK hP 0 rfl 8 (by decide) fl_T_blocks rfl rfl d_T_addBlock_135 ?_
                refine lv_iload_n hx hb d_T_addBlock_138 rfl (lv_at hl 3 rfl) ?_
                refine lv_dup2_11 hx hb d_T_addBlock_139 rfl rfl ?_
                refine T_bl S hK hP hB5 (f := f) (by omega) rfl d_T_addBlock_140 ?_
                refine lv_tope (z := nI (bn g f)) (by rw [hb5]) ?_
                refine lv_iconst (v := 1) hx hb d_T_addBlock_141 (by decide) ?_
                refine lv_iadd hx hb d_T_addBlock_142 ?_
                refine lv_tope (z := nI ((bn g f) + 1)) (nI_add (bn g f) 1) ?_
                refine T_blst S hK hP hD hS (f := f) (by omega) rfl d_T_addBlock_143 (fun H locs hP hD hS => ?_)
                obtain ⟨g6, hg6⟩ : ∃ z : Nat → Int32, z = upd g5 (8 + f) (nI ((bn g f) + 1)) := ⟨_, rfl⟩
                rw [← hg6] at hP hD
                have hB6 : BN g6 := by rw [hg6]; exact BN_set hf (by omega) hB5
                refine lv_aload_n hx hb d_T_addBlock_144 rfl (lv_at hl 2 rfl) ?_
                refine lv_aload_n hx hb d_T_addBlock_145 rfl (lv_at hl 2 rfl) ?_
                refine lv_iload_n hx hb d_T_addBlock_146 rfl (lv_at hl 3 rfl) ?_
                refine T_ro S (c_T_endInGap l D ca t g6 f hB6 (by omega)) k_T_75 rfl hP hK rfl rfl hl.1 ⟨Nat.le_of_ble_eq_true rfl, Nat.le_of_ble_eq_true rfl⟩ ⟨Nat.zero_le _, Nat.zero_le _⟩ (Nat.le_of_ble_eq_true rfl) d_T_addBlock_147 ?_
                refine T_mi S (c_T_travelTo l D ca t g6 (en g6 f) ) k_T_79 rfl hP hD hS hA hK rfl rfl hl.1 ⟨Nat.le_of_ble_eq_true rfl, Nat.le_of_ble_eq_true rfl⟩ ⟨Nat.zero_le _, Nat.zero_le _⟩ (Nat.le_of_ble_eq_true rfl) d_T_addBlock_150 (fun H locs hP hD hS => ?_)
                obtain ⟨g7, hg7⟩ : ∃ z : Nat → Int32, z = tv g6 (en g6 f) := ⟨_, rfl⟩
                rw [← hg7] at hP hD
                refine lv_pop hx hb d_T_addBlock_153 rfl ?_
                refine lv_iload hx hb d_T_addBlock_154 (lv_at hl 1 rfl) ?_
                exact hret _ _ _ _ _ _ d_T_addBlock_156 rfl (by subst hg1 hg2 hg3 hg4 hg5 hg6 hg7; first | (simp only [s_add, c_5, hcl, c_12, c_18, c_22, c_29, c_43, c_66, ↓reduceIte]; done) | (simp only [s_add, c_5, hcl, c_12, c_18, c_22, c_29, c_43, c_66, ↓reduceIte]; rfl) | rfl) (by subst hg1 hg2 hg3 hg4 hg5 hg6 hg7; first | (simp only [s_add, c_5, hcl, c_12, c_18, c_22, c_29, c_43, c_66, ↓reduceIte]; done) | (simp only [s_add, c_5, hcl, c_12, c_18, c_22, c_29, c_43, c_66, ↓reduceIte]; rfl) | rfl) hP hD hS
              · refine lv_bipush (v := (-5)) hx hb d_T_addBlock_69 (by decide) ?_
                exact hret _ _ _ _ _ _ d_T_addBlock_71 rfl (by first | (simp only [s_add, c_5, hcl, c_12, c_18, c_22, c_29, c_43, c_66, ↓reduceIte]; done) | (simp only [s_add, c_5, hcl, c_12, c_18, c_22, c_29, c_43, c_66, ↓reduceIte]; rfl) | rfl) (by first | (simp only [s_add, c_5, hcl, c_12, c_18, c_22, c_29, c_43, c_66, ↓reduceIte]; done) | (simp only [s_add, c_5, hcl, c_12, c_18, c_22, c_29, c_43, c_66, ↓reduceIte]; rfl) | rfl) hP hD hS
            · refine lv_bipush (v := (-4)) hx hb d_T_addBlock_46 (by decide) ?_
              exact hret _ _ _ _ _ _ d_T_addBlock_48 rfl (by first | (simp only [s_add, c_5, hcl, c_12, c_18, c_22, c_29, c_43, ↓reduceIte]; done) | (simp only [s_add, c_5, hcl, c_12, c_18, c_22, c_29, c_43, ↓reduceIte]; rfl) | rfl) (by first | (simp only [s_add, c_5, hcl, c_12, c_18, c_22, c_29, c_43, ↓reduceIte]; done) | (simp only [s_add, c_5, hcl, c_12, c_18, c_22, c_29, c_43, ↓reduceIte]; rfl) | rfl) hP hD hS
          · refine lv_bipush (v := (-2)) hx hb d_T_addBlock_32 (by decide) ?_
            exact hret _ _ _ _ _ _ d_T_addBlock_34 rfl (by first | (simp only [s_add, c_5, hcl, c_12, c_18, c_22, c_29, ↓reduceIte]; done) | (simp only [s_add, c_5, hcl, c_12, c_18, c_22, c_29, ↓reduceIte]; rfl) | rfl) (by first | (simp only [s_add, c_5, hcl, c_12, c_18, c_22, c_29, ↓reduceIte]; done) | (simp only [s_add, c_5, hcl, c_12, c_18, c_22, c_29, ↓reduceIte]; rfl) | rfl) hP hD hS
  · refine lv_iconst (v := (-1)) hx hb d_T_addBlock_8 (by decide) ?_
    exact hret _ _ _ _ _ _ d_T_addBlock_9 rfl (by first | (simp only [s_add, c_5, ↓reduceIte]; done) | (simp only [s_add, c_5, ↓reduceIte]; rfl) | rfl) (by first | (simp only [s_add, c_5, ↓reduceIte]; done) | (simp only [s_add, c_5, ↓reduceIte]; rfl) | rfl) hP hD hS
set_option maxHeartbeats 4000000 in
set_option maxRecDepth 100000 in
theorem c_T_keepBlocks (l : Launch) (D : va_G) (ca : Nat → ClassId) (t : Nat → Nat) (g : Nat → Int32) (x y : Int32) (hB : BN g): MI l y_T_keepBlocks b_T_keepBlocks 4 (some .int) 1 21 D ca [.ref (t 0), .int x, .int y] (tw ca t g) ((s_cut g x y).1) (tw ca t ((s_cut g x y).2)) := by
  refine MI.mk (ty := .int) rfl rfl (Nat.le_of_ble_eq_true rfl) ?_
  intro p e s m args below meth c Q A S hA hP hD hK
  obtain ⟨hx, hb, hml, hown, hts⟩ := id S
  intro hret ls hl0 hS
  have hl : lv_has ls 4 [(0, .ref (t 0)), (1, .int x), (2, .int y)] := hl0
  refine lv_aload_n hx hb d_T_keepBlocks_0 rfl (lv_at hl 0 rfl) ?_
  refine lv_iload_n hx hb d_T_keepBlocks_1 rfl (lv_at hl 1 rfl) ?_
  refine T_ro0 S (c_T_isFile l D ca (t 0) x ) k_T_71 rfl hP hK rfl rfl hl.1 ⟨Nat.le_of_ble_eq_true rfl, Nat.le_of_ble_eq_true rfl⟩ ⟨Nat.zero_le _, Nat.zero_le _⟩ (Nat.le_of_ble_eq_true rfl) d_T_keepBlocks_2 ?_
  refine lv_if_ne (tgt := 10) hx hb d_T_keepBlocks_5 (by decide) (fun c_5 => ?_) (fun c_5 => ?_)
  · obtain ⟨f, hf, rfl⟩ := isf_of c_5
    have hcl : (nI f).toNatClampNeg = f := nI_clamp (by omega)
    refine lv_iload_n hx hb d_T_keepBlocks_10 rfl (lv_at hl 2 rfl) ?_
    refine lv_if_ge (tgt := 17) hx hb d_T_keepBlocks_11 (by decide) (fun c_11 => ?_) (fun c_11 => ?_)
    · refine lv_iload_n hx hb d_T_keepBlocks_17 rfl (lv_at hl 2 rfl) ?_
      refine lv_aload_n hx hb d_T_keepBlocks_18 rfl (lv_at hl 0 rfl) ?_
      refine f_get S cls_T hK hP 0 rfl 8 (by decide) fl_T_blocks rfl rfl d_T_keepBlocks_19 ?_
      refine lv_iload_n hx hb d_T_keepBlocks_22 rfl (lv_at hl 1 rfl) ?_
      refine T_bl S hK hP hB (f := f) (by omega) rfl d_T_keepBlocks_23 ?_
      refine lv_icmp_le (tgt := 30) hx hb d_T_keepBlocks_24 (by decide) (fun c_24 => ?_) (fun c_24 => ?_)
      · refine lv_aload_n hx hb d_T_keepBlocks_30 rfl (lv_at hl 0 rfl) ?_
        refine f_get S cls_T hK hP 0 rfl 8 (by decide) fl_T_blocks rfl rfl d_T_keepBlocks_31 ?_
        refine lv_iload_n hx hb d_T_keepBlocks_34 rfl (lv_at hl 1 rfl) ?_
        refine T_bl S hK hP hB (f := f) (by omega) rfl d_T_keepBlocks_35 ?_
        refine lv_iload_n hx hb d_T_keepBlocks_36 rfl (lv_at hl 2 rfl) ?_
        refine lv_isub hx hb d_T_keepBlocks_37 ?_
        refine lv_istore_n (lv' := [(3, .int ((nI (bn g f)) - y)), (0, .ref (t 0)), (1, .int (nI f)), (2, .int y)]) hx hb d_T_keepBlocks_38 rfl hl (by decide) rfl (fun ls hl => ?_)
        refine lv_aload_n hx hb d_T_keepBlocks_39 rfl (lv_at hl 1 rfl) ?_
        refine f_get S cls_T hK hP 0 rfl 8 (by decide) fl_T_blocks rfl rfl d_T_keepBlocks_40 ?_
        refine lv_iload_n hx hb d_T_keepBlocks_43 rfl (lv_at hl 2 rfl) ?_
        refine lv_iload_n hx hb d_T_keepBlocks_44 rfl (lv_at hl 3 rfl) ?_
        refine T_blst S hK hP hD hS (f := f) (by omega) rfl d_T_keepBlocks_45 (fun H locs hP hD hS => ?_)
        obtain ⟨g1, hg1⟩ : ∃ z : Nat → Int32, z = upd g (8 + f) y := ⟨_, rfl⟩
        rw [← hg1] at hP hD
        refine lv_iload_n hx hb d_T_keepBlocks_46 rfl (lv_at hl 0 rfl) ?_
        exact hret _ _ _ _ _ _ d_T_keepBlocks_47 rfl (by subst hg1; first | (simp only [s_cut, c_5, hcl, c_11, c_24, ↓reduceIte]; done) | (simp only [s_cut, c_5, hcl, c_11, c_24, ↓reduceIte]; rfl) | rfl) (by subst hg1; first | (simp only [s_cut, c_5, hcl, c_11, c_24, ↓reduceIte]; done) | (simp only [s_cut, c_5, hcl, c_11, c_24, ↓reduceIte]; rfl) | rfl) hP hD hS
      · refine lv_bipush (v := (-5)) hx hb d_T_keepBlocks_27 (by decide) ?_
        exact hret _ _ _ _ _ _ d_T_keepBlocks_29 rfl (by first | (simp only [s_cut, c_5, hcl, c_11, c_24, ↓reduceIte]; done) | (simp only [s_cut, c_5, hcl, c_11, c_24, ↓reduceIte]; rfl) | rfl) (by first | (simp only [s_cut, c_5, hcl, c_11, c_24, ↓reduceIte]; done) | (simp only [s_cut, c_5, hcl, c_11, c_24, ↓reduceIte]; rfl) | rfl) hP hD hS
    · refine lv_bipush (v := (-2)) hx hb d_T_keepBlocks_14 (by decide) ?_
      exact hret _ _ _ _ _ _ d_T_keepBlocks_16 rfl (by first | (simp only [s_cut, c_5, hcl, c_11, ↓reduceIte]; done) | (simp only [s_cut, c_5, hcl, c_11, ↓reduceIte]; rfl) | rfl) (by first | (simp only [s_cut, c_5, hcl, c_11, ↓reduceIte]; done) | (simp only [s_cut, c_5, hcl, c_11, ↓reduceIte]; rfl) | rfl) hP hD hS
  · refine lv_iconst (v := (-1)) hx hb d_T_keepBlocks_8 (by decide) ?_
    exact hret _ _ _ _ _ _ d_T_keepBlocks_9 rfl (by first | (simp only [s_cut, c_5, ↓reduceIte]; done) | (simp only [s_cut, c_5, ↓reduceIte]; rfl) | rfl) (by first | (simp only [s_cut, c_5, ↓reduceIte]; done) | (simp only [s_cut, c_5, ↓reduceIte]; rfl) | rfl) hP hD hS
set_option maxHeartbeats 4000000 in
set_option maxRecDepth 100000 in
theorem c_T_moveHead (l : Launch) (D : va_G) (ca : Nat → ClassId) (t : Nat → Nat) (g : Nat → Int32) (x : Int32) : MI l y_T_moveHead b_T_moveHead 2 (some .int) 2 52 D ca [.ref (t 0), .int x] (tw ca t g) ((s_mov g x).1) (tw ca t ((s_mov g x).2)) := by
  refine MI.mk (ty := .int) rfl rfl (Nat.le_of_ble_eq_true rfl) ?_
  intro p e s m args below meth c Q A S hA hP hD hK
  obtain ⟨hx, hb, hml, hown, hts⟩ := id S
  intro hret ls hl0 hS
  have hl : lv_has ls 2 [(0, .ref (t 0)), (1, .int x)] := hl0
  refine lv_iload_n hx hb d_T_moveHead_0 rfl (lv_at hl 1 rfl) ?_
  refine lv_if_lt (tgt := 12) hx hb d_T_moveHead_1 (by decide) (fun c_1 => ?_) (fun c_1 => ?_)
  · refine lv_bipush (v := (-2)) hx hb d_T_moveHead_12 (by decide) ?_
    exact hret _ _ _ _ _ _ d_T_moveHead_14 rfl (by first | (simp only [s_mov, c_1, ↓reduceIte]; done) | (simp only [s_mov, c_1, ↓reduceIte]; rfl) | rfl) (by first | (simp only [s_mov, c_1, ↓reduceIte]; done) | (simp only [s_mov, c_1, ↓reduceIte]; rfl) | rfl) hP hD hS
  · refine lv_iload_n hx hb d_T_moveHead_4 rfl (lv_at hl 1 rfl) ?_
    refine lv_aload_n hx hb d_T_moveHead_5 rfl (lv_at hl 0 rfl) ?_
    refine f_get S cls_T hK hP 0 rfl 0 (by decide) fl_T_feet rfl rfl d_T_moveHead_6 ?_
    refine lv_icmp_le (tgt := 15) hx hb d_T_moveHead_9 (by decide) (fun c_9 => ?_) (fun c_9 => ?_)
    · refine lv_aload_n hx hb d_T_moveHead_15 rfl (lv_at hl 0 rfl) ?_
      refine lv_iload_n hx hb d_T_moveHead_16 rfl (lv_at hl 1 rfl) ?_
      refine T_mi S (c_T_travelTo l D ca t g x ) k_T_79 rfl hP hD hS hA hK rfl rfl hl.1 ⟨Nat.le_of_ble_eq_true rfl, Nat.le_of_ble_eq_true rfl⟩ ⟨Nat.zero_le _, Nat.zero_le _⟩ (Nat.le_of_ble_eq_true rfl) d_T_moveHead_17 (fun H locs hP hD hS => ?_)
      obtain ⟨g1, hg1⟩ : ∃ z : Nat → Int32, z = tv g x := ⟨_, rfl⟩
      rw [← hg1] at hP hD
      exact hret _ _ _ _ _ _ d_T_moveHead_20 rfl (by subst hg1; first | (simp only [s_mov, c_1, c_9, ↓reduceIte]; done) | (simp only [s_mov, c_1, c_9, ↓reduceIte]; rfl) | rfl) (by subst hg1; first | (simp only [s_mov, c_1, c_9, ↓reduceIte]; done) | (simp only [s_mov, c_1, c_9, ↓reduceIte]; rfl) | rfl) hP hD hS
    · refine lv_bipush (v := (-2)) hx hb d_T_moveHead_12 (by decide) ?_
      exact hret _ _ _ _ _ _ d_T_moveHead_14 rfl (by first | (simp only [s_mov, c_1, c_9, ↓reduceIte]; done) | (simp only [s_mov, c_1, c_9, ↓reduceIte]; rfl) | rfl) (by first | (simp only [s_mov, c_1, c_9, ↓reduceIte]; done) | (simp only [s_mov, c_1, c_9, ↓reduceIte]; rfl) | rfl) hP hD hS
set_option maxHeartbeats 4000000 in
set_option maxRecDepth 100000 in
theorem c_T_goToNearerEnd (l : Launch) (D : va_G) (ca : Nat → ClassId) (t : Nat → Nat) (g : Nat → Int32)  : MI l y_T_goToNearerEnd b_T_goToNearerEnd 1 (some .int) 2 52 D ca [.ref (t 0)] (tw ca t g) ((s_rew g).1) (tw ca t ((s_rew g).2)) := by
  refine MI.mk (ty := .int) rfl rfl (Nat.le_of_ble_eq_true rfl) ?_
  intro p e s m args below meth c Q A S hA hP hD hK
  obtain ⟨hx, hb, hml, hown, hts⟩ := id S
  intro hret ls hl0 hS
  have hl : lv_has ls 1 [(0, .ref (t 0))] := hl0
  refine lv_aload_n hx hb d_T_goToNearerEnd_0 rfl (lv_at hl 0 rfl) ?_
  refine lv_aload_n hx hb d_T_goToNearerEnd_1 rfl (lv_at hl 0 rfl) ?_
  refine f_get S cls_T hK hP 0 rfl 3 (by decide) fl_T_head rfl rfl d_T_goToNearerEnd_2 ?_
  refine lv_aload_n hx hb d_T_goToNearerEnd_5 rfl (lv_at hl 0 rfl) ?_
  refine f_get S cls_T hK hP 0 rfl 0 (by decide) fl_T_feet rfl rfl d_T_goToNearerEnd_6 ?_
  refine lv_aload_n hx hb d_T_goToNearerEnd_9 rfl (lv_at hl 0 rfl) ?_
  refine f_get S cls_T hK hP 0 rfl 3 (by decide) fl_T_head rfl rfl d_T_goToNearerEnd_10 ?_
  refine lv_isub hx hb d_T_goToNearerEnd_13 ?_
  refine lv_icmp_gt (tgt := 21) hx hb d_T_goToNearerEnd_14 (by decide) (fun c_14 => ?_) (fun c_14 => ?_)
  · refine lv_aload_n hx hb d_T_goToNearerEnd_21 rfl (lv_at hl 0 rfl) ?_
    refine f_get S cls_T hK hP 0 rfl 0 (by decide) fl_T_feet rfl rfl d_T_goToNearerEnd_22 ?_
    refine T_mi S (c_T_travelTo l D ca t g (g 0) ) k_T_79 rfl hP hD hS hA hK rfl rfl hl.1 ⟨Nat.le_of_ble_eq_true rfl, Nat.le_of_ble_eq_true rfl⟩ ⟨Nat.zero_le _, Nat.zero_le _⟩ (Nat.le_of_ble_eq_true rfl) d_T_goToNearerEnd_25 (fun H locs hP hD hS => ?_)
    obtain ⟨g1, hg1⟩ : ∃ z : Nat → Int32, z = tv g (g 0) := ⟨_, rfl⟩
    rw [← hg1] at hP hD
    refine lv_pop hx hb d_T_goToNearerEnd_28 rfl ?_
    refine lv_aload_n hx hb d_T_goToNearerEnd_29 rfl (lv_at hl 0 rfl) ?_
    refine f_get S cls_T hK hP 0 rfl 3 (by decide) fl_T_head rfl rfl d_T_goToNearerEnd_30 ?_
    exact hret _ _ _ _ _ _ d_T_goToNearerEnd_33 rfl (by subst hg1; first | (simp only [s_rew, c_14, ↓reduceIte]; done) | (simp only [s_rew, c_14, ↓reduceIte]; rfl) | rfl) (by subst hg1; first | (simp only [s_rew, c_14, ↓reduceIte]; done) | (simp only [s_rew, c_14, ↓reduceIte]; rfl) | rfl) hP hD hS
  · refine lv_iconst (v := 0) hx hb d_T_goToNearerEnd_17 (by decide) ?_
    refine lv_goto (tgt := 25) hx hb d_T_goToNearerEnd_18 (by decide) ?_
    refine T_mi S (c_T_travelTo l D ca t g 0 ) k_T_79 rfl hP hD hS hA hK rfl rfl hl.1 ⟨Nat.le_of_ble_eq_true rfl, Nat.le_of_ble_eq_true rfl⟩ ⟨Nat.zero_le _, Nat.zero_le _⟩ (Nat.le_of_ble_eq_true rfl) d_T_goToNearerEnd_25 (fun H locs hP hD hS => ?_)
    obtain ⟨g2, hg2⟩ : ∃ z : Nat → Int32, z = tv g 0 := ⟨_, rfl⟩
    rw [← hg2] at hP hD
    refine lv_pop hx hb d_T_goToNearerEnd_28 rfl ?_
    refine lv_aload_n hx hb d_T_goToNearerEnd_29 rfl (lv_at hl 0 rfl) ?_
    refine f_get S cls_T hK hP 0 rfl 3 (by decide) fl_T_head rfl rfl d_T_goToNearerEnd_30 ?_
    exact hret _ _ _ _ _ _ d_T_goToNearerEnd_33 rfl (by subst hg2; first | (simp only [s_rew, c_14, ↓reduceIte]; done) | (simp only [s_rew, c_14, ↓reduceIte]; rfl) | rfl) (by subst hg2; first | (simp only [s_rew, c_14, ↓reduceIte]; done) | (simp only [s_rew, c_14, ↓reduceIte]; rfl) | rfl) hP hD hS
set_option maxHeartbeats 4000000 in
set_option maxRecDepth 100000 in
theorem c_T_passBlock (l : Launch) (D : va_G) (ca : Nat → ClassId) (t : Nat → Nat) (g : Nat → Int32) (x y z : Int32) (hB : BN g): MI l y_T_passBlock b_T_passBlock 5 (some .int) 4 92 D ca [.ref (t 0), .int x, .int y, .int z] (tw ca t g) ((s_rd g x y z).1) (tw ca t ((s_rd g x y z).2)) := by
  refine MI.mk (ty := .int) rfl rfl (Nat.le_of_ble_eq_true rfl) ?_
  intro p e s m args below meth c Q A S hA hP hD hK
  obtain ⟨hx, hb, hml, hown, hts⟩ := id S
  intro hret ls hl0 hS
  have hl : lv_has ls 5 [(0, .ref (t 0)), (1, .int x), (2, .int y), (3, .int z)] := hl0
  refine lv_aload_n hx hb d_T_passBlock_0 rfl (lv_at hl 0 rfl) ?_
  refine lv_iload_n hx hb d_T_passBlock_1 rfl (lv_at hl 1 rfl) ?_
  refine lv_iload_n hx hb d_T_passBlock_2 rfl (lv_at hl 2 rfl) ?_
  refine T_ro S (c_T_isBlock l D ca t g x y hB) k_T_85 rfl hP hK rfl rfl hl.1 ⟨Nat.le_of_ble_eq_true rfl, Nat.le_of_ble_eq_true rfl⟩ ⟨Nat.zero_le _, Nat.zero_le _⟩ (Nat.le_of_ble_eq_true rfl) d_T_passBlock_3 ?_
  refine lv_if_ne (tgt := 11) hx hb d_T_passBlock_6 (by decide) (fun c_6 => ?_) (fun c_6 => ?_)
  · obtain ⟨f, b, hf, hbn, rfl, rfl⟩ := ibk_of c_6 hB
    have hcl : (nI f).toNatClampNeg = f := nI_clamp (by omega)
    have hn20 := (hB f hf).2
    have hcb : (nI b).toNatClampNeg = b := nI_clamp (by omega)
    refine lv_iload_n hx hb d_T_passBlock_11 rfl (lv_at hl 3 rfl) ?_
    refine lv_if_eq (tgt := 23) hx hb d_T_passBlock_12 (by decide) (fun c_12 => ?_) (fun c_12 => ?_)
    · subst c_12
      refine lv_aload_n hx hb d_T_passBlock_23 rfl (lv_at hl 0 rfl) ?_
      refine lv_iload_n hx hb d_T_passBlock_24 rfl (lv_at hl 1 rfl) ?_
      refine lv_iload_n hx hb d_T_passBlock_25 rfl (lv_at hl 2 rfl) ?_
      refine T_ro0 S (c_T_rowOf l D ca (t 0) f b ) k_T_82 rfl hP hK rfl rfl hl.1 ⟨Nat.le_of_ble_eq_true rfl, Nat.le_of_ble_eq_true rfl⟩ ⟨Nat.zero_le _, Nat.zero_le _⟩ (Nat.le_of_ble_eq_true rfl) d_T_passBlock_26 ?_
      refine lv_istore (lv' := [(4, .int (nI (f * 20 + b))), (0, .ref (t 0)), (1, .int (nI f)), (2, .int (nI b)), (3, .int 0)]) hx hb d_T_passBlock_29 hl (by decide) rfl (fun ls hl => ?_)
      refine lv_aload_n hx hb d_T_passBlock_31 rfl (lv_at hl 1 rfl) ?_
      refine lv_aload_n hx hb d_T_passBlock_32 rfl (lv_at hl 1 rfl) ?_
      refine lv_iload_n hx hb d_T_passBlock_33 rfl (lv_at hl 2 rfl) ?_
      refine lv_iload_n hx hb d_T_passBlock_34 rfl (lv_at hl 3 rfl) ?_
      refine lv_iload_n hx hb d_T_passBlock_35 rfl (lv_at hl 4 rfl) ?_
      refine T_ro S (c_T_startOfReading l D ca t g f b 0 (by omega) (by omega) (by omega)) k_T_89 rfl hP hK rfl rfl hl.1 ⟨Nat.le_of_ble_eq_true rfl, Nat.le_of_ble_eq_true rfl⟩ ⟨Nat.zero_le _, Nat.zero_le _⟩ (Nat.le_of_ble_eq_true rfl) d_T_passBlock_36 ?_
      refine T_mi S (c_T_travelTo l D ca t g (sr g f b 0) ) k_T_79 rfl hP hD hS hA hK rfl rfl hl.1 ⟨Nat.le_of_ble_eq_true rfl, Nat.le_of_ble_eq_true rfl⟩ ⟨Nat.zero_le _, Nat.zero_le _⟩ (Nat.le_of_ble_eq_true rfl) d_T_passBlock_39 (fun H locs hP hD hS => ?_)
      obtain ⟨g1, hg1⟩ : ∃ z : Nat → Int32, z = tv g (sr g f b 0) := ⟨_, rfl⟩
      rw [← hg1] at hP hD
      refine lv_pop hx hb d_T_passBlock_42 rfl ?_
      refine lv_aload_n hx hb d_T_passBlock_43 rfl (lv_at hl 1 rfl) ?_
      refine lv_aload_n hx hb d_T_passBlock_44 rfl (lv_at hl 1 rfl) ?_
      refine lv_iload_n hx hb d_T_passBlock_45 rfl (lv_at hl 2 rfl) ?_
      refine lv_iload_n hx hb d_T_passBlock_46 rfl (lv_at hl 3 rfl) ?_
      refine lv_iconst (v := 1) hx hb d_T_passBlock_47 (by decide) ?_
      refine lv_iload_n hx hb d_T_passBlock_48 rfl (lv_at hl 4 rfl) ?_
      refine lv_isub hx hb d_T_passBlock_49 ?_
      refine lv_tope (z := 1) (by decide) ?_
      refine T_ro S (c_T_startOfReading l D ca t g1 f b 1 (by omega) (by omega) (by omega)) k_T_89 rfl hP hK rfl rfl hl.1 ⟨Nat.le_of_ble_eq_true rfl, Nat.le_of_ble_eq_true rfl⟩ ⟨Nat.zero_le _, Nat.zero_le _⟩ (Nat.le_of_ble_eq_true rfl) d_T_passBlock_50 ?_
      refine T_mi S (c_T_travelTo l D ca t g1 (sr g1 f b 1) ) k_T_79 rfl hP hD hS hA hK rfl rfl hl.1 ⟨Nat.le_of_ble_eq_true rfl, Nat.le_of_ble_eq_true rfl⟩ ⟨Nat.zero_le _, Nat.zero_le _⟩ (Nat.le_of_ble_eq_true rfl) d_T_passBlock_53 (fun H locs hP hD hS => ?_)
      obtain ⟨g2, hg2⟩ : ∃ z : Nat → Int32, z = tv g1 (sr g1 f b 1) := ⟨_, rfl⟩
      rw [← hg2] at hP hD
      refine lv_pop hx hb d_T_passBlock_56 rfl ?_
      refine lv_aload_n hx hb d_T_passBlock_57 rfl (lv_at hl 1 rfl) ?_
      refine f_get S cls_T hK hP 0 rfl 12 (by decide) fl_T_timesRead rfl rfl d_T_passBlock_58 ?_
      refine lv_iload hx hb d_T_passBlock_61 (lv_at hl 0 rfl) ?_
      refine lv_dup2_11 hx hb d_T_passBlock_63 rfl rfl ?_
      refine T_ar 3 (by decide) S hK hP (r := f * 20 + b) (by omega) rfl d_T_passBlock_64 ?_
      refine lv_iconst (v := 1) hx hb d_T_passBlock_65 (by decide) ?_
      refine lv_iadd hx hb d_T_passBlock_66 ?_
      refine T_arst 3 (by decide) S hK hP hD hS (r := f * 20 + b) (by omega) rfl d_T_passBlock_67 (fun H locs hP hD hS => ?_)
      obtain ⟨g3, hg3⟩ : ∃ z : Nat → Int32, z = upd g2 (10 + 4 * (f * 20 + b) + 3) ((g2 (10 + 4 * (f * 20 + b) + 3)) + 1) := ⟨_, rfl⟩
      rw [← hg3] at hP hD
      refine lv_aload_n hx hb d_T_passBlock_68 rfl (lv_at hl 1 rfl) ?_
      refine lv_dup hx hb d_T_passBlock_69 rfl ?_
      refine f_get S cls_T hK hP 0 rfl 7 (by decide) fl_T_blocksRead rfl rfl d_T_passBlock_70 ?_
      refine lv_iconst (v := 1) hx hb d_T_passBlock_73 (by decide) ?_
      refine lv_iadd hx hb d_T_passBlock_74 ?_
      refine T_put S hK hP hD hS 7 (by decide) fl_T_blocksRead d_T_passBlock_75 (fun H locs hP hD hS => ?_)
      obtain ⟨g4, hg4⟩ : ∃ z : Nat → Int32, z = upd g3 7 ((g3 7) + 1) := ⟨_, rfl⟩
      rw [← hg4] at hP hD
      refine lv_aload_n hx hb d_T_passBlock_78 rfl (lv_at hl 1 rfl) ?_
      refine f_get S cls_T hK hP 0 rfl 10 (by decide) fl_T_sums rfl rfl d_T_passBlock_79 ?_
      refine lv_iload hx hb d_T_passBlock_82 (lv_at hl 0 rfl) ?_
      refine T_ar 1 (by decide) S hK hP (r := f * 20 + b) (by omega) rfl d_T_passBlock_84 ?_
      refine lv_iload_n hx hb d_T_passBlock_85 rfl (lv_at hl 3 rfl) ?_
      refine lv_iadd hx hb d_T_passBlock_86 ?_
      refine lv_iload_n hx hb d_T_passBlock_87 rfl (lv_at hl 4 rfl) ?_
      refine lv_iadd hx hb d_T_passBlock_88 ?_
      refine lv_bipush (v := 10) hx hb d_T_passBlock_89 (by decide) ?_
      refine lv_irem hx hb d_T_passBlock_91 (by decide) ?_
      exact hret _ _ _ _ _ _ d_T_passBlock_92 rfl (by subst hg1 hg2 hg3 hg4; first | (simp only [s_rd, c_6, hcl, hcb, ↓reduceIte]; done) | (simp only [s_rd, c_6, hcl, hcb, ↓reduceIte]; rfl) | rfl) (by subst hg1 hg2 hg3 hg4; first | (simp only [s_rd, c_6, hcl, hcb, ↓reduceIte]; done) | (simp only [s_rd, c_6, hcl, hcb, ↓reduceIte]; rfl) | rfl) hP hD hS
    · refine lv_iload_n hx hb d_T_passBlock_15 rfl (lv_at hl 3 rfl) ?_
      refine lv_iconst (v := 1) hx hb d_T_passBlock_16 (by decide) ?_
      refine lv_icmp_eq (tgt := 23) hx hb d_T_passBlock_17 (by decide) (fun c_17 => ?_) (fun c_17 => ?_)
      · subst c_17
        refine lv_aload_n hx hb d_T_passBlock_23 rfl (lv_at hl 0 rfl) ?_
        refine lv_iload_n hx hb d_T_passBlock_24 rfl (lv_at hl 1 rfl) ?_
        refine lv_iload_n hx hb d_T_passBlock_25 rfl (lv_at hl 2 rfl) ?_
        refine T_ro0 S (c_T_rowOf l D ca (t 0) f b ) k_T_82 rfl hP hK rfl rfl hl.1 ⟨Nat.le_of_ble_eq_true rfl, Nat.le_of_ble_eq_true rfl⟩ ⟨Nat.zero_le _, Nat.zero_le _⟩ (Nat.le_of_ble_eq_true rfl) d_T_passBlock_26 ?_
        refine lv_istore (lv' := [(4, .int (nI (f * 20 + b))), (0, .ref (t 0)), (1, .int (nI f)), (2, .int (nI b)), (3, .int 1)]) hx hb d_T_passBlock_29 hl (by decide) rfl (fun ls hl => ?_)
        refine lv_aload_n hx hb d_T_passBlock_31 rfl (lv_at hl 1 rfl) ?_
        refine lv_aload_n hx hb d_T_passBlock_32 rfl (lv_at hl 1 rfl) ?_
        refine lv_iload_n hx hb d_T_passBlock_33 rfl (lv_at hl 2 rfl) ?_
        refine lv_iload_n hx hb d_T_passBlock_34 rfl (lv_at hl 3 rfl) ?_
        refine lv_iload_n hx hb d_T_passBlock_35 rfl (lv_at hl 4 rfl) ?_
        refine T_ro S (c_T_startOfReading l D ca t g f b 1 (by omega) (by omega) (by omega)) k_T_89 rfl hP hK rfl rfl hl.1 ⟨Nat.le_of_ble_eq_true rfl, Nat.le_of_ble_eq_true rfl⟩ ⟨Nat.zero_le _, Nat.zero_le _⟩ (Nat.le_of_ble_eq_true rfl) d_T_passBlock_36 ?_
        refine T_mi S (c_T_travelTo l D ca t g (sr g f b 1) ) k_T_79 rfl hP hD hS hA hK rfl rfl hl.1 ⟨Nat.le_of_ble_eq_true rfl, Nat.le_of_ble_eq_true rfl⟩ ⟨Nat.zero_le _, Nat.zero_le _⟩ (Nat.le_of_ble_eq_true rfl) d_T_passBlock_39 (fun H locs hP hD hS => ?_)
        obtain ⟨g5, hg5⟩ : ∃ z : Nat → Int32, z = tv g (sr g f b 1) := ⟨_, rfl⟩
        rw [← hg5] at hP hD
        refine lv_pop hx hb d_T_passBlock_42 rfl ?_
        refine lv_aload_n hx hb d_T_passBlock_43 rfl (lv_at hl 1 rfl) ?_
        refine lv_aload_n hx hb d_T_passBlock_44 rfl (lv_at hl 1 rfl) ?_
        refine lv_iload_n hx hb d_T_passBlock_45 rfl (lv_at hl 2 rfl) ?_
        refine lv_iload_n hx hb d_T_passBlock_46 rfl (lv_at hl 3 rfl) ?_
        refine lv_iconst (v := 1) hx hb d_T_passBlock_47 (by decide) ?_
        refine lv_iload_n hx hb d_T_passBlock_48 rfl (lv_at hl 4 rfl) ?_
        refine lv_isub hx hb d_T_passBlock_49 ?_
        refine lv_tope (z := 0) (by decide) ?_
        refine T_ro S (c_T_startOfReading l D ca t g5 f b 0 (by omega) (by omega) (by omega)) k_T_89 rfl hP hK rfl rfl hl.1 ⟨Nat.le_of_ble_eq_true rfl, Nat.le_of_ble_eq_true rfl⟩ ⟨Nat.zero_le _, Nat.zero_le _⟩ (Nat.le_of_ble_eq_true rfl) d_T_passBlock_50 ?_
        refine T_mi S (c_T_travelTo l D ca t g5 (sr g5 f b 0) ) k_T_79 rfl hP hD hS hA hK rfl rfl hl.1 ⟨Nat.le_of_ble_eq_true rfl, Nat.le_of_ble_eq_true rfl⟩ ⟨Nat.zero_le _, Nat.zero_le _⟩ (Nat.le_of_ble_eq_true rfl) d_T_passBlock_53 (fun H locs hP hD hS => ?_)
        obtain ⟨g6, hg6⟩ : ∃ z : Nat → Int32, z = tv g5 (sr g5 f b 0) := ⟨_, rfl⟩
        rw [← hg6] at hP hD
        refine lv_pop hx hb d_T_passBlock_56 rfl ?_
        refine lv_aload_n hx hb d_T_passBlock_57 rfl (lv_at hl 1 rfl) ?_
        refine f_get S cls_T hK hP 0 rfl 12 (by decide) fl_T_timesRead rfl rfl d_T_passBlock_58 ?_
        refine lv_iload hx hb d_T_passBlock_61 (lv_at hl 0 rfl) ?_
        refine lv_dup2_11 hx hb d_T_passBlock_63 rfl rfl ?_
        refine T_ar 3 (by decide) S hK hP (r := f * 20 + b) (by omega) rfl d_T_passBlock_64 ?_
        refine lv_iconst (v := 1) hx hb d_T_passBlock_65 (by decide) ?_
        refine lv_iadd hx hb d_T_passBlock_66 ?_
        refine T_arst 3 (by decide) S hK hP hD hS (r := f * 20 + b) (by omega) rfl d_T_passBlock_67 (fun H locs hP hD hS => ?_)
        obtain ⟨g7, hg7⟩ : ∃ z : Nat → Int32, z = upd g6 (10 + 4 * (f * 20 + b) + 3) ((g6 (10 + 4 * (f * 20 + b) + 3)) + 1) := ⟨_, rfl⟩
        rw [← hg7] at hP hD
        refine lv_aload_n hx hb d_T_passBlock_68 rfl (lv_at hl 1 rfl) ?_
        refine lv_dup hx hb d_T_passBlock_69 rfl ?_
        refine f_get S cls_T hK hP 0 rfl 7 (by decide) fl_T_blocksRead rfl rfl d_T_passBlock_70 ?_
        refine lv_iconst (v := 1) hx hb d_T_passBlock_73 (by decide) ?_
        refine lv_iadd hx hb d_T_passBlock_74 ?_
        refine T_put S hK hP hD hS 7 (by decide) fl_T_blocksRead d_T_passBlock_75 (fun H locs hP hD hS => ?_)
        obtain ⟨g8, hg8⟩ : ∃ z : Nat → Int32, z = upd g7 7 ((g7 7) + 1) := ⟨_, rfl⟩
        rw [← hg8] at hP hD
        refine lv_aload_n hx hb d_T_passBlock_78 rfl (lv_at hl 1 rfl) ?_
        refine f_get S cls_T hK hP 0 rfl 10 (by decide) fl_T_sums rfl rfl d_T_passBlock_79 ?_
        refine lv_iload hx hb d_T_passBlock_82 (lv_at hl 0 rfl) ?_
        refine T_ar 1 (by decide) S hK hP (r := f * 20 + b) (by omega) rfl d_T_passBlock_84 ?_
        refine lv_iload_n hx hb d_T_passBlock_85 rfl (lv_at hl 3 rfl) ?_
        refine lv_iadd hx hb d_T_passBlock_86 ?_
        refine lv_iload_n hx hb d_T_passBlock_87 rfl (lv_at hl 4 rfl) ?_
        refine lv_iadd hx hb d_T_passBlock_88 ?_
        refine lv_bipush (v := 10) hx hb d_T_passBlock_89 (by decide) ?_
        refine lv_irem hx hb d_T_passBlock_91 (by decide) ?_
        exact hret _ _ _ _ _ _ d_T_passBlock_92 rfl (by subst hg5 hg6 hg7 hg8; first | (simp only [s_rd, c_6, hcl, hcb, c_12, ↓reduceIte]; done) | (simp only [s_rd, c_6, hcl, hcb, c_12, ↓reduceIte]; rfl) | rfl) (by subst hg5 hg6 hg7 hg8; first | (simp only [s_rd, c_6, hcl, hcb, c_12, ↓reduceIte]; done) | (simp only [s_rd, c_6, hcl, hcb, c_12, ↓reduceIte]; rfl) | rfl) hP hD hS
      · refine lv_bipush (v := (-2)) hx hb d_T_passBlock_20 (by decide) ?_
        exact hret _ _ _ _ _ _ d_T_passBlock_22 rfl (by first | (simp only [s_rd, c_6, hcl, hcb, c_12, c_17, ↓reduceIte]; done) | (simp only [s_rd, c_6, hcl, hcb, c_12, c_17, ↓reduceIte]; rfl) | rfl) (by first | (simp only [s_rd, c_6, hcl, hcb, c_12, c_17, ↓reduceIte]; done) | (simp only [s_rd, c_6, hcl, hcb, c_12, c_17, ↓reduceIte]; rfl) | rfl) hP hD hS
  · refine lv_iconst (v := (-1)) hx hb d_T_passBlock_9 (by decide) ?_
    exact hret _ _ _ _ _ _ d_T_passBlock_10 rfl (by first | (simp only [s_rd, c_6, ↓reduceIte]; done) | (simp only [s_rd, c_6, ↓reduceIte]; rfl) | rfl) (by first | (simp only [s_rd, c_6, ↓reduceIte]; done) | (simp only [s_rd, c_6, ↓reduceIte]; rfl) | rfl) hP hD hS
set_option maxHeartbeats 4000000 in
set_option maxRecDepth 100000 in
theorem c_T_takeOut (l : Launch) (D : va_G) (ca : Nat → ClassId) (t : Nat → Nat) (g : Nat → Int32) (x y : Int32) (hB : BN g): MI l y_T_takeOut b_T_takeOut 7 (some .int) 4 94 D ca [.ref (t 0), .int x, .int y] (tw ca t g) ((s_spl g x y).1) (tw ca t ((s_spl g x y).2)) := by
  refine MI.mk (ty := .int) rfl rfl (Nat.le_of_ble_eq_true rfl) ?_
  intro p e s m args below meth c Q A S hA hP hD hK
  obtain ⟨hx, hb, hml, hown, hts⟩ := id S
  intro hret ls hl0 hS
  have hl : lv_has ls 7 [(0, .ref (t 0)), (1, .int x), (2, .int y)] := hl0
  refine lv_iload_n hx hb d_T_takeOut_0 rfl (lv_at hl 1 rfl) ?_
  refine lv_if_lt (tgt := 23) hx hb d_T_takeOut_1 (by decide) (fun c_1 => ?_) (fun c_1 => ?_)
  · refine lv_bipush (v := (-2)) hx hb d_T_takeOut_23 (by decide) ?_
    exact hret _ _ _ _ _ _ d_T_takeOut_25 rfl (by first | (simp only [s_spl, s_s2, s_k1, s_k2, Bool.false_eq_true, or_self, or_true, true_or, or_false, false_or, c_1, ↓reduceIte]; done) | (simp only [s_spl, s_s2, s_k1, s_k2, Bool.false_eq_true, or_self, or_true, true_or, or_false, false_or, c_1, ↓reduceIte]; rfl) | rfl) (by first | (simp only [s_spl, s_s2, s_k1, s_k2, Bool.false_eq_true, or_self, or_true, true_or, or_false, false_or, c_1, ↓reduceIte]; done) | (simp only [s_spl, s_s2, s_k1, s_k2, Bool.false_eq_true, or_self, or_true, true_or, or_false, false_or, c_1, ↓reduceIte]; rfl) | rfl) hP hD hS
  · refine lv_iload_n hx hb d_T_takeOut_4 rfl (lv_at hl 1 rfl) ?_
    refine lv_aload_n hx hb d_T_takeOut_5 rfl (lv_at hl 0 rfl) ?_
    refine f_get S cls_T hK hP 0 rfl 0 (by decide) fl_T_feet rfl rfl d_T_takeOut_6 ?_
    refine lv_icmp_ge (tgt := 23) hx hb d_T_takeOut_9 (by decide) (fun c_9 => ?_) (fun c_9 => ?_)
    · refine lv_bipush (v := (-2)) hx hb d_T_takeOut_23 (by decide) ?_
      exact hret _ _ _ _ _ _ d_T_takeOut_25 rfl (by first | (simp only [s_spl, s_s2, s_k1, s_k2, Bool.false_eq_true, or_self, or_true, true_or, or_false, false_or, c_1, c_9, ↓reduceIte]; done) | (simp only [s_spl, s_s2, s_k1, s_k2, Bool.false_eq_true, or_self, or_true, true_or, or_false, false_or, c_1, c_9, ↓reduceIte]; rfl) | rfl) (by first | (simp only [s_spl, s_s2, s_k1, s_k2, Bool.false_eq_true, or_self, or_true, true_or, or_false, false_or, c_1, c_9, ↓reduceIte]; done) | (simp only [s_spl, s_s2, s_k1, s_k2, Bool.false_eq_true, or_self, or_true, true_or, or_false, false_or, c_1, c_9, ↓reduceIte]; rfl) | rfl) hP hD hS
    · refine lv_iload_n hx hb d_T_takeOut_12 rfl (lv_at hl 2 rfl) ?_
      refine lv_iconst (v := 1) hx hb d_T_takeOut_13 (by decide) ?_
      refine lv_icmp_lt (tgt := 23) hx hb d_T_takeOut_14 (by decide) (fun c_14 => ?_) (fun c_14 => ?_)
      · refine lv_bipush (v := (-2)) hx hb d_T_takeOut_23 (by decide) ?_
        exact hret _ _ _ _ _ _ d_T_takeOut_25 rfl (by first | (simp only [s_spl, s_s2, s_k1, s_k2, Bool.false_eq_true, or_self, or_true, true_or, or_false, false_or, c_1, c_9, c_14, ↓reduceIte]; done) | (simp only [s_spl, s_s2, s_k1, s_k2, Bool.false_eq_true, or_self, or_true, true_or, or_false, false_or, c_1, c_9, c_14, ↓reduceIte]; rfl) | rfl) (by first | (simp only [s_spl, s_s2, s_k1, s_k2, Bool.false_eq_true, or_self, or_true, true_or, or_false, false_or, c_1, c_9, c_14, ↓reduceIte]; done) | (simp only [s_spl, s_s2, s_k1, s_k2, Bool.false_eq_true, or_self, or_true, true_or, or_false, false_or, c_1, c_9, c_14, ↓reduceIte]; rfl) | rfl) hP hD hS
      · refine lv_iload_n hx hb d_T_takeOut_17 rfl (lv_at hl 2 rfl) ?_
        refine lv_bipush (v := 50) hx hb d_T_takeOut_18 (by decide) ?_
        refine lv_icmp_le (tgt := 26) hx hb d_T_takeOut_20 (by decide) (fun c_20 => ?_) (fun c_20 => ?_)
        · refine lv_iload_n hx hb d_T_takeOut_26 rfl (lv_at hl 2 rfl) ?_
          refine lv_iconst (v := 1) hx hb d_T_takeOut_27 (by decide) ?_
          refine lv_iadd hx hb d_T_takeOut_28 ?_
          refine lv_istore_n (lv' := [(3, .int (y + 1)), (0, .ref (t 0)), (1, .int x), (2, .int y)]) hx hb d_T_takeOut_29 rfl hl (by decide) rfl (fun ls hl => ?_)
          refine lv_aload_n hx hb d_T_takeOut_30 rfl (lv_at hl 1 rfl) ?_
          refine lv_iload_n hx hb d_T_takeOut_31 rfl (lv_at hl 2 rfl) ?_
          refine lv_iload_n hx hb d_T_takeOut_32 rfl (lv_at hl 2 rfl) ?_
          refine lv_iload_n hx hb d_T_takeOut_33 rfl (lv_at hl 0 rfl) ?_
          refine lv_iadd hx hb d_T_takeOut_34 ?_
          refine T_ro S (c_T_rowWithData l D ca t g x (x + (y + 1)) hB) k_T_93 rfl hP hK rfl rfl hl.1 ⟨Nat.le_of_ble_eq_true rfl, Nat.le_of_ble_eq_true rfl⟩ ⟨Nat.zero_le _, Nat.zero_le _⟩ (Nat.le_of_ble_eq_true rfl) d_T_takeOut_35 ?_
          obtain ⟨v, hv⟩ : ∃ z, z = rwd g x (x + (y + 1)) := ⟨_, rfl⟩
          refine lv_tope (z := v) (hv.symm) ?_
          refine lv_istore (lv' := [(4, .int v), (3, .int (y + 1)), (0, .ref (t 0)), (1, .int x), (2, .int y)]) hx hb d_T_takeOut_38 hl (by decide) rfl (fun ls hl => ?_)
          refine lv_iload hx hb d_T_takeOut_40 (lv_at hl 0 rfl) ?_
          refine lv_if_lt (tgt := 62) hx hb d_T_takeOut_42 (by decide) (fun c_42 => ?_) (fun c_42 => ?_)
          · refine lv_iconst (v := 0) hx hb d_T_takeOut_62 (by decide) ?_
            refine lv_istore (lv' := [(5, .int 0), (4, .int v), (3, .int (y + 1)), (0, .ref (t 0)), (1, .int x), (2, .int y)]) hx hb d_T_takeOut_63 hl (by decide) rfl (fun ls hl => ?_)
            refine lv_aload_n hx hb d_T_takeOut_65 rfl (lv_at hl 3 rfl) ?_
            refine lv_iload_n hx hb d_T_takeOut_66 rfl (lv_at hl 4 rfl) ?_
            refine lv_iload_n hx hb d_T_takeOut_67 rfl (lv_at hl 4 rfl) ?_
            refine lv_iload_n hx hb d_T_takeOut_68 rfl (lv_at hl 2 rfl) ?_
            refine lv_iadd hx hb d_T_takeOut_69 ?_
            refine T_ro S (c_T_isInGap l D ca t g x (x + (y + 1)) hB) k_T_96 rfl hP hK rfl rfl hl.1 ⟨Nat.le_of_ble_eq_true rfl, Nat.le_of_ble_eq_true rfl⟩ ⟨Nat.zero_le _, Nat.zero_le _⟩ (Nat.le_of_ble_eq_true rfl) d_T_takeOut_70 ?_
            refine lv_if_eq (tgt := 93) hx hb d_T_takeOut_73 (by decide) (fun c_73 => ?_) (fun c_73 => ?_)
            · refine lv_iconst (v := 0) hx hb d_T_takeOut_93 (by decide) ?_
              refine lv_istore (lv' := [(6, .int 0), (5, .int 0), (4, .int v), (3, .int (y + 1)), (0, .ref (t 0)), (1, .int x), (2, .int y)]) hx hb d_T_takeOut_94 hl (by decide) rfl (fun ls hl => ?_)
              refine lv_iload hx hb d_T_takeOut_96 (lv_at hl 1 rfl) ?_
              refine lv_if_ne (tgt := 109) hx hb d_T_takeOut_98 (by decide) (fun q => absurd (by decide) q) (fun _ => ?_)
              refine lv_iload hx hb d_T_takeOut_101 (lv_at hl 0 rfl) ?_
              refine lv_if_ne (tgt := 109) hx hb d_T_takeOut_103 (by decide) (fun q => absurd (by decide) q) (fun _ => ?_)
              refine lv_bipush (v := (-5)) hx hb d_T_takeOut_106 (by decide) ?_
              exact hret _ _ _ _ _ _ d_T_takeOut_108 rfl (by first | (simp only [s_spl, s_s2, s_k1, s_k2, Bool.false_eq_true, or_self, or_true, true_or, or_false, false_or, c_1, c_9, c_14, c_20, ← hv, c_42, c_73, ↓reduceIte]; done) | (simp only [s_spl, s_s2, s_k1, s_k2, Bool.false_eq_true, or_self, or_true, true_or, or_false, false_or, c_1, c_9, c_14, c_20, ← hv, c_42, c_73, ↓reduceIte]; rfl) | rfl) (by first | (simp only [s_spl, s_s2, s_k1, s_k2, Bool.false_eq_true, or_self, or_true, true_or, or_false, false_or, c_1, c_9, c_14, c_20, ← hv, c_42, c_73, ↓reduceIte]; done) | (simp only [s_spl, s_s2, s_k1, s_k2, Bool.false_eq_true, or_self, or_true, true_or, or_false, false_or, c_1, c_9, c_14, c_20, ← hv, c_42, c_73, ↓reduceIte]; rfl) | rfl) hP hD hS
            · refine lv_aload_n hx hb d_T_takeOut_76 rfl (lv_at hl 3 rfl) ?_
              refine T_ro S (c_T_gap l D ca t g  hB) k_T_68 rfl hP hK rfl rfl hl.1 ⟨Nat.le_of_ble_eq_true rfl, Nat.le_of_ble_eq_true rfl⟩ ⟨Nat.zero_le _, Nat.zero_le _⟩ (Nat.le_of_ble_eq_true rfl) d_T_takeOut_77 ?_
              refine lv_iload_n hx hb d_T_takeOut_80 rfl (lv_at hl 2 rfl) ?_
              refine lv_isub hx hb d_T_takeOut_81 ?_
              refine lv_aload_n hx hb d_T_takeOut_82 rfl (lv_at hl 3 rfl) ?_
              refine f_get S cls_T hK hP 0 rfl 1 (by decide) fl_T_leastGap rfl rfl d_T_takeOut_83 ?_
              refine lv_icmp_lt (tgt := 93) hx hb d_T_takeOut_86 (by decide) (fun c_86 => ?_) (fun c_86 => ?_)
              · refine lv_iconst (v := 0) hx hb d_T_takeOut_93 (by decide) ?_
                refine lv_istore (lv' := [(6, .int 0), (5, .int 0), (4, .int v), (3, .int (y + 1)), (0, .ref (t 0)), (1, .int x), (2, .int y)]) hx hb d_T_takeOut_94 hl (by decide) rfl (fun ls hl => ?_)
                refine lv_iload hx hb d_T_takeOut_96 (lv_at hl 1 rfl) ?_
                refine lv_if_ne (tgt := 109) hx hb d_T_takeOut_98 (by decide) (fun q => absurd (by decide) q) (fun _ => ?_)
                refine lv_iload hx hb d_T_takeOut_101 (lv_at hl 0 rfl) ?_
                refine lv_if_ne (tgt := 109) hx hb d_T_takeOut_103 (by decide) (fun q => absurd (by decide) q) (fun _ => ?_)
                refine lv_bipush (v := (-5)) hx hb d_T_takeOut_106 (by decide) ?_
                exact hret _ _ _ _ _ _ d_T_takeOut_108 rfl (by first | (simp only [s_spl, s_s2, s_k1, s_k2, Bool.false_eq_true, or_self, or_true, true_or, or_false, false_or, c_1, c_9, c_14, c_20, ← hv, c_42, c_73, c_86, ↓reduceIte]; done) | (simp only [s_spl, s_s2, s_k1, s_k2, Bool.false_eq_true, or_self, or_true, true_or, or_false, false_or, c_1, c_9, c_14, c_20, ← hv, c_42, c_73, c_86, ↓reduceIte]; rfl) | rfl) (by first | (simp only [s_spl, s_s2, s_k1, s_k2, Bool.false_eq_true, or_self, or_true, true_or, or_false, false_or, c_1, c_9, c_14, c_20, ← hv, c_42, c_73, c_86, ↓reduceIte]; done) | (simp only [s_spl, s_s2, s_k1, s_k2, Bool.false_eq_true, or_self, or_true, true_or, or_false, false_or, c_1, c_9, c_14, c_20, ← hv, c_42, c_73, c_86, ↓reduceIte]; rfl) | rfl) hP hD hS
              · refine lv_iconst (v := 1) hx hb d_T_takeOut_89 (by decide) ?_
                refine lv_goto (tgt := 94) hx hb d_T_takeOut_90 (by decide) ?_
                refine lv_istore (lv' := [(6, .int 1), (5, .int 0), (4, .int v), (3, .int (y + 1)), (0, .ref (t 0)), (1, .int x), (2, .int y)]) hx hb d_T_takeOut_94 hl (by decide) rfl (fun ls hl => ?_)
                refine lv_iload hx hb d_T_takeOut_96 (lv_at hl 1 rfl) ?_
                refine lv_if_ne (tgt := 109) hx hb d_T_takeOut_98 (by decide) (fun q => absurd (by decide) q) (fun _ => ?_)
                refine lv_iload hx hb d_T_takeOut_101 (lv_at hl 0 rfl) ?_
                refine lv_if_ne (tgt := 109) hx hb d_T_takeOut_103 (by decide) (fun _ => ?_) (fun q => absurd q (by decide))
                refine lv_aload_n hx hb d_T_takeOut_109 rfl (lv_at hl 4 rfl) ?_
                refine f_get S cls_T hK hP 0 rfl 4 (by decide) fl_T_splices rfl rfl d_T_takeOut_110 ?_
                refine lv_bipush (v := 9) hx hb d_T_takeOut_113 (by decide) ?_
                refine lv_icmp_lt (tgt := 121) hx hb d_T_takeOut_115 (by decide) (fun c_115 => ?_) (fun c_115 => ?_)
                · refine lv_iload hx hb d_T_takeOut_121 (lv_at hl 2 rfl) ?_
                  refine lv_if_lt (tgt := 145) hx hb d_T_takeOut_123 (by decide) (fun _ => ?_) (fun q => absurd (c_42) q)
                  refine lv_aload_n hx hb d_T_takeOut_145 rfl (lv_at hl 4 rfl) ?_
                  refine lv_dup hx hb d_T_takeOut_146 rfl ?_
                  refine f_get S cls_T hK hP 0 rfl 0 (by decide) fl_T_feet rfl rfl d_T_takeOut_147 ?_
                  refine lv_iload_n hx hb d_T_takeOut_150 rfl (lv_at hl 3 rfl) ?_
                  refine lv_isub hx hb d_T_takeOut_151 ?_
                  refine T_put S hK hP hD hS 0 (by decide) fl_T_feet d_T_takeOut_152 (fun H locs hP hD hS => ?_)
                  obtain ⟨g1, hg1⟩ : ∃ z : Nat → Int32, z = upd g 0 ((g 0) - (y + 1)) := ⟨_, rfl⟩
                  rw [← hg1] at hP hD
                  refine lv_aload_n hx hb d_T_takeOut_155 rfl (lv_at hl 4 rfl) ?_
                  refine lv_dup hx hb d_T_takeOut_156 rfl ?_
                  refine f_get S cls_T hK hP 0 rfl 3 (by decide) fl_T_head rfl rfl d_T_takeOut_157 ?_
                  refine lv_iconst (v := 0) hx hb d_T_takeOut_160 (by decide) ?_
                  refine lv_iload_n hx hb d_T_takeOut_161 rfl (lv_at hl 3 rfl) ?_
                  refine lv_aload_n hx hb d_T_takeOut_162 rfl (lv_at hl 4 rfl) ?_
                  refine f_get S cls_T hK hP 0 rfl 3 (by decide) fl_T_head rfl rfl d_T_takeOut_163 ?_
                  refine lv_iload_n hx hb d_T_takeOut_166 rfl (lv_at hl 5 rfl) ?_
                  refine lv_isub hx hb d_T_takeOut_167 ?_
                  refine va_mmin hx hb (hml.trans hl.1.symm) hown (hts _ kx_T_62) (hts _ xs_Math_min) (hts _ in_java_lang_Math) (hts _ xc_Math_min) (Nat.le_of_ble_eq_true rfl) (Nat.le_of_ble_eq_true rfl) (Nat.zero_le _) (Nat.zero_le _) d_T_takeOut_168 ?_
                  refine lv_tope (z := mn2 (y + 1) ((g1 3) - x)) rfl ?_
                  refine va_mmax hx hb (hml.trans hl.1.symm) hown (hts _ kx_T_99) (hts _ xs_Math_max) (hts _ in_java_lang_Math) (hts _ xc_Math_max) (Nat.le_of_ble_eq_true rfl) (Nat.le_of_ble_eq_true rfl) (Nat.zero_le _) (Nat.zero_le _) d_T_takeOut_171 ?_
                  refine lv_tope (z := mx2 0 (mn2 (y + 1) ((g1 3) - x))) rfl ?_
                  refine lv_isub hx hb d_T_takeOut_174 ?_
                  refine T_put S hK hP hD hS 3 (by decide) fl_T_head d_T_takeOut_175 (fun H locs hP hD hS => ?_)
                  obtain ⟨g2, hg2⟩ : ∃ z : Nat → Int32, z = upd g1 3 ((g1 3) - (mx2 0 (mn2 (y + 1) ((g1 3) - x)))) := ⟨_, rfl⟩
                  rw [← hg2] at hP hD
                  refine lv_aload_n hx hb d_T_takeOut_178 rfl (lv_at hl 4 rfl) ?_
                  refine lv_dup hx hb d_T_takeOut_179 rfl ?_
                  refine f_get S cls_T hK hP 0 rfl 4 (by decide) fl_T_splices rfl rfl d_T_takeOut_180 ?_
                  refine lv_iconst (v := 1) hx hb d_T_takeOut_183 (by decide) ?_
                  refine lv_iadd hx hb d_T_takeOut_184 ?_
                  refine T_put S hK hP hD hS 4 (by decide) fl_T_splices d_T_takeOut_185 (fun H locs hP hD hS => ?_)
                  obtain ⟨g3, hg3⟩ : ∃ z : Nat → Int32, z = upd g2 4 ((g2 4) + 1) := ⟨_, rfl⟩
                  rw [← hg3] at hP hD
                  refine lv_aload_n hx hb d_T_takeOut_188 rfl (lv_at hl 4 rfl) ?_
                  refine lv_dup hx hb d_T_takeOut_189 rfl ?_
                  refine f_get S cls_T hK hP 0 rfl 5 (by decide) fl_T_feetTakenOut rfl rfl d_T_takeOut_190 ?_
                  refine lv_iload_n hx hb d_T_takeOut_193 rfl (lv_at hl 3 rfl) ?_
                  refine lv_iadd hx hb d_T_takeOut_194 ?_
                  refine T_put S hK hP hD hS 5 (by decide) fl_T_feetTakenOut d_T_takeOut_195 (fun H locs hP hD hS => ?_)
                  obtain ⟨g4, hg4⟩ : ∃ z : Nat → Int32, z = upd g3 5 ((g3 5) + (y + 1)) := ⟨_, rfl⟩
                  rw [← hg4] at hP hD
                  refine lv_aload_n hx hb d_T_takeOut_198 rfl (lv_at hl 4 rfl) ?_
                  refine f_get S cls_T hK hP 0 rfl 0 (by decide) fl_T_feet rfl rfl d_T_takeOut_199 ?_
                  exact hret _ _ _ _ _ _ d_T_takeOut_202 rfl (by subst hg1 hg2 hg3 hg4; first | (simp only [s_spl, s_s2, s_k1, s_k2, Bool.false_eq_true, or_self, or_true, true_or, or_false, false_or, c_1, c_9, c_14, c_20, ← hv, c_42, c_73, c_86, c_115, ↓reduceIte]; done) | (simp only [s_spl, s_s2, s_k1, s_k2, Bool.false_eq_true, or_self, or_true, true_or, or_false, false_or, c_1, c_9, c_14, c_20, ← hv, c_42, c_73, c_86, c_115, ↓reduceIte]; rfl) | rfl) (by subst hg1 hg2 hg3 hg4; first | (simp only [s_spl, s_s2, s_k1, s_k2, Bool.false_eq_true, or_self, or_true, true_or, or_false, false_or, c_1, c_9, c_14, c_20, ← hv, c_42, c_73, c_86, c_115, ↓reduceIte]; done) | (simp only [s_spl, s_s2, s_k1, s_k2, Bool.false_eq_true, or_self, or_true, true_or, or_false, false_or, c_1, c_9, c_14, c_20, ← hv, c_42, c_73, c_86, c_115, ↓reduceIte]; rfl) | rfl) hP hD hS
                · refine lv_bipush (v := (-4)) hx hb d_T_takeOut_118 (by decide) ?_
                  exact hret _ _ _ _ _ _ d_T_takeOut_120 rfl (by first | (simp only [s_spl, s_s2, s_k1, s_k2, Bool.false_eq_true, or_self, or_true, true_or, or_false, false_or, c_1, c_9, c_14, c_20, ← hv, c_42, c_73, c_86, c_115, ↓reduceIte]; done) | (simp only [s_spl, s_s2, s_k1, s_k2, Bool.false_eq_true, or_self, or_true, true_or, or_false, false_or, c_1, c_9, c_14, c_20, ← hv, c_42, c_73, c_86, c_115, ↓reduceIte]; rfl) | rfl) (by first | (simp only [s_spl, s_s2, s_k1, s_k2, Bool.false_eq_true, or_self, or_true, true_or, or_false, false_or, c_1, c_9, c_14, c_20, ← hv, c_42, c_73, c_86, c_115, ↓reduceIte]; done) | (simp only [s_spl, s_s2, s_k1, s_k2, Bool.false_eq_true, or_self, or_true, true_or, or_false, false_or, c_1, c_9, c_14, c_20, ← hv, c_42, c_73, c_86, c_115, ↓reduceIte]; rfl) | rfl) hP hD hS
          · obtain ⟨r, hr, hvr⟩ := rwd_of hB (by rw [← hv]; exact c_42)
            obtain rfl : v = nI r := hv.trans hvr
            have hcr : (nI r).toNatClampNeg = r := nI_clamp (by omega)
            refine lv_aload_n hx hb d_T_takeOut_45 rfl (lv_at hl 2 rfl) ?_
            refine f_get S cls_T hK hP 0 rfl 9 (by decide) fl_T_data rfl rfl d_T_takeOut_46 ?_
            refine lv_iload hx hb d_T_takeOut_49 (lv_at hl 0 rfl) ?_
            refine T_ar 0 (by decide) S hK hP (r := r) (by omega) rfl d_T_takeOut_51 ?_
            refine lv_iload_n hx hb d_T_takeOut_52 rfl (lv_at hl 1 rfl) ?_
            refine lv_isub hx hb d_T_takeOut_53 ?_
            refine lv_iconst (v := 1) hx hb d_T_takeOut_54 (by decide) ?_
            refine lv_icmp_lt (tgt := 62) hx hb d_T_takeOut_55 (by decide) (fun c_55 => ?_) (fun c_55 => ?_)
            · refine lv_iconst (v := 0) hx hb d_T_takeOut_62 (by decide) ?_
              refine lv_istore (lv' := [(5, .int 0), (4, .int (nI r)), (3, .int (y + 1)), (0, .ref (t 0)), (1, .int x), (2, .int y)]) hx hb d_T_takeOut_63 hl (by decide) rfl (fun ls hl => ?_)
              refine lv_aload_n hx hb d_T_takeOut_65 rfl (lv_at hl 3 rfl) ?_
              refine lv_iload_n hx hb d_T_takeOut_66 rfl (lv_at hl 4 rfl) ?_
              refine lv_iload_n hx hb d_T_takeOut_67 rfl (lv_at hl 4 rfl) ?_
              refine lv_iload_n hx hb d_T_takeOut_68 rfl (lv_at hl 2 rfl) ?_
              refine lv_iadd hx hb d_T_takeOut_69 ?_
              refine T_ro S (c_T_isInGap l D ca t g x (x + (y + 1)) hB) k_T_96 rfl hP hK rfl rfl hl.1 ⟨Nat.le_of_ble_eq_true rfl, Nat.le_of_ble_eq_true rfl⟩ ⟨Nat.zero_le _, Nat.zero_le _⟩ (Nat.le_of_ble_eq_true rfl) d_T_takeOut_70 ?_
              refine lv_if_eq (tgt := 93) hx hb d_T_takeOut_73 (by decide) (fun c_73 => ?_) (fun c_73 => ?_)
              · refine lv_iconst (v := 0) hx hb d_T_takeOut_93 (by decide) ?_
                refine lv_istore (lv' := [(6, .int 0), (5, .int 0), (4, .int (nI r)), (3, .int (y + 1)), (0, .ref (t 0)), (1, .int x), (2, .int y)]) hx hb d_T_takeOut_94 hl (by decide) rfl (fun ls hl => ?_)
                refine lv_iload hx hb d_T_takeOut_96 (lv_at hl 1 rfl) ?_
                refine lv_if_ne (tgt := 109) hx hb d_T_takeOut_98 (by decide) (fun q => absurd (by decide) q) (fun _ => ?_)
                refine lv_iload hx hb d_T_takeOut_101 (lv_at hl 0 rfl) ?_
                refine lv_if_ne (tgt := 109) hx hb d_T_takeOut_103 (by decide) (fun q => absurd (by decide) q) (fun _ => ?_)
                refine lv_bipush (v := (-5)) hx hb d_T_takeOut_106 (by decide) ?_
                exact hret _ _ _ _ _ _ d_T_takeOut_108 rfl (by first | (simp only [s_spl, s_s2, s_k1, s_k2, Bool.false_eq_true, or_self, or_true, true_or, or_false, false_or, c_1, c_9, c_14, c_20, ← hv, c_42, hcr, c_55, c_73, ↓reduceIte]; done) | (simp only [s_spl, s_s2, s_k1, s_k2, Bool.false_eq_true, or_self, or_true, true_or, or_false, false_or, c_1, c_9, c_14, c_20, ← hv, c_42, hcr, c_55, c_73, ↓reduceIte]; rfl) | rfl) (by first | (simp only [s_spl, s_s2, s_k1, s_k2, Bool.false_eq_true, or_self, or_true, true_or, or_false, false_or, c_1, c_9, c_14, c_20, ← hv, c_42, hcr, c_55, c_73, ↓reduceIte]; done) | (simp only [s_spl, s_s2, s_k1, s_k2, Bool.false_eq_true, or_self, or_true, true_or, or_false, false_or, c_1, c_9, c_14, c_20, ← hv, c_42, hcr, c_55, c_73, ↓reduceIte]; rfl) | rfl) hP hD hS
              · refine lv_aload_n hx hb d_T_takeOut_76 rfl (lv_at hl 3 rfl) ?_
                refine T_ro S (c_T_gap l D ca t g  hB) k_T_68 rfl hP hK rfl rfl hl.1 ⟨Nat.le_of_ble_eq_true rfl, Nat.le_of_ble_eq_true rfl⟩ ⟨Nat.zero_le _, Nat.zero_le _⟩ (Nat.le_of_ble_eq_true rfl) d_T_takeOut_77 ?_
                refine lv_iload_n hx hb d_T_takeOut_80 rfl (lv_at hl 2 rfl) ?_
                refine lv_isub hx hb d_T_takeOut_81 ?_
                refine lv_aload_n hx hb d_T_takeOut_82 rfl (lv_at hl 3 rfl) ?_
                refine f_get S cls_T hK hP 0 rfl 1 (by decide) fl_T_leastGap rfl rfl d_T_takeOut_83 ?_
                refine lv_icmp_lt (tgt := 93) hx hb d_T_takeOut_86 (by decide) (fun c_86 => ?_) (fun c_86 => ?_)
                · refine lv_iconst (v := 0) hx hb d_T_takeOut_93 (by decide) ?_
                  refine lv_istore (lv' := [(6, .int 0), (5, .int 0), (4, .int (nI r)), (3, .int (y + 1)), (0, .ref (t 0)), (1, .int x), (2, .int y)]) hx hb d_T_takeOut_94 hl (by decide) rfl (fun ls hl => ?_)
                  refine lv_iload hx hb d_T_takeOut_96 (lv_at hl 1 rfl) ?_
                  refine lv_if_ne (tgt := 109) hx hb d_T_takeOut_98 (by decide) (fun q => absurd (by decide) q) (fun _ => ?_)
                  refine lv_iload hx hb d_T_takeOut_101 (lv_at hl 0 rfl) ?_
                  refine lv_if_ne (tgt := 109) hx hb d_T_takeOut_103 (by decide) (fun q => absurd (by decide) q) (fun _ => ?_)
                  refine lv_bipush (v := (-5)) hx hb d_T_takeOut_106 (by decide) ?_
                  exact hret _ _ _ _ _ _ d_T_takeOut_108 rfl (by first | (simp only [s_spl, s_s2, s_k1, s_k2, Bool.false_eq_true, or_self, or_true, true_or, or_false, false_or, c_1, c_9, c_14, c_20, ← hv, c_42, hcr, c_55, c_73, c_86, ↓reduceIte]; done) | (simp only [s_spl, s_s2, s_k1, s_k2, Bool.false_eq_true, or_self, or_true, true_or, or_false, false_or, c_1, c_9, c_14, c_20, ← hv, c_42, hcr, c_55, c_73, c_86, ↓reduceIte]; rfl) | rfl) (by first | (simp only [s_spl, s_s2, s_k1, s_k2, Bool.false_eq_true, or_self, or_true, true_or, or_false, false_or, c_1, c_9, c_14, c_20, ← hv, c_42, hcr, c_55, c_73, c_86, ↓reduceIte]; done) | (simp only [s_spl, s_s2, s_k1, s_k2, Bool.false_eq_true, or_self, or_true, true_or, or_false, false_or, c_1, c_9, c_14, c_20, ← hv, c_42, hcr, c_55, c_73, c_86, ↓reduceIte]; rfl) | rfl) hP hD hS
                · refine lv_iconst (v := 1) hx hb d_T_takeOut_89 (by decide) ?_
                  refine lv_goto (tgt := 94) hx hb d_T_takeOut_90 (by decide) ?_
                  refine lv_istore (lv' := [(6, .int 1), (5, .int 0), (4, .int (nI r)), (3, .int (y + 1)), (0, .ref (t 0)), (1, .int x), (2, .int y)]) hx hb d_T_takeOut_94 hl (by decide) rfl (fun ls hl => ?_)
                  refine lv_iload hx hb d_T_takeOut_96 (lv_at hl 1 rfl) ?_
                  refine lv_if_ne (tgt := 109) hx hb d_T_takeOut_98 (by decide) (fun q => absurd (by decide) q) (fun _ => ?_)
                  refine lv_iload hx hb d_T_takeOut_101 (lv_at hl 0 rfl) ?_
                  refine lv_if_ne (tgt := 109) hx hb d_T_takeOut_103 (by decide) (fun _ => ?_) (fun q => absurd q (by decide))
                  refine lv_aload_n hx hb d_T_takeOut_109 rfl (lv_at hl 4 rfl) ?_
                  refine f_get S cls_T hK hP 0 rfl 4 (by decide) fl_T_splices rfl rfl d_T_takeOut_110 ?_
                  refine lv_bipush (v := 9) hx hb d_T_takeOut_113 (by decide) ?_
                  refine lv_icmp_lt (tgt := 121) hx hb d_T_takeOut_115 (by decide) (fun c_115 => ?_) (fun c_115 => ?_)
                  · refine lv_iload hx hb d_T_takeOut_121 (lv_at hl 2 rfl) ?_
                    refine lv_if_lt (tgt := 145) hx hb d_T_takeOut_123 (by decide) (fun q => absurd q (c_42)) (fun _ => ?_)
                    refine lv_aload_n hx hb d_T_takeOut_126 rfl (lv_at hl 4 rfl) ?_
                    refine f_get S cls_T hK hP 0 rfl 9 (by decide) fl_T_data rfl rfl d_T_takeOut_127 ?_
                    refine lv_iload hx hb d_T_takeOut_130 (lv_at hl 2 rfl) ?_
                    refine lv_dup2_11 hx hb d_T_takeOut_132 rfl rfl ?_
                    refine T_ar 0 (by decide) S hK hP (r := r) (by omega) rfl d_T_takeOut_133 ?_
                    refine lv_iload_n hx hb d_T_takeOut_134 rfl (lv_at hl 3 rfl) ?_
                    refine lv_isub hx hb d_T_takeOut_135 ?_
                    refine T_arst 0 (by decide) S hK hP hD hS (r := r) (by omega) rfl d_T_takeOut_136 (fun H locs hP hD hS => ?_)
                    obtain ⟨g5, hg5⟩ : ∃ z : Nat → Int32, z = upd g (10 + 4 * r + 0) ((g (10 + 4 * r + 0)) - (y + 1)) := ⟨_, rfl⟩
                    rw [← hg5] at hP hD
                    refine lv_aload_n hx hb d_T_takeOut_137 rfl (lv_at hl 4 rfl) ?_
                    refine f_get S cls_T hK hP 0 rfl 10 (by decide) fl_T_sums rfl rfl d_T_takeOut_138 ?_
                    refine lv_iload hx hb d_T_takeOut_141 (lv_at hl 2 rfl) ?_
                    refine lv_iconst (v := 0) hx hb d_T_takeOut_143 (by decide) ?_
                    refine T_arst 1 (by decide) S hK hP hD hS (r := r) (by omega) rfl d_T_takeOut_144 (fun H locs hP hD hS => ?_)
                    obtain ⟨g6, hg6⟩ : ∃ z : Nat → Int32, z = upd g5 (10 + 4 * r + 1) 0 := ⟨_, rfl⟩
                    rw [← hg6] at hP hD
                    refine lv_aload_n hx hb d_T_takeOut_145 rfl (lv_at hl 4 rfl) ?_
                    refine lv_dup hx hb d_T_takeOut_146 rfl ?_
                    refine f_get S cls_T hK hP 0 rfl 0 (by decide) fl_T_feet rfl rfl d_T_takeOut_147 ?_
                    refine lv_iload_n hx hb d_T_takeOut_150 rfl (lv_at hl 3 rfl) ?_
                    refine lv_isub hx hb d_T_takeOut_151 ?_
                    refine T_put S hK hP hD hS 0 (by decide) fl_T_feet d_T_takeOut_152 (fun H locs hP hD hS => ?_)
                    obtain ⟨g7, hg7⟩ : ∃ z : Nat → Int32, z = upd g6 0 ((g6 0) - (y + 1)) := ⟨_, rfl⟩
                    rw [← hg7] at hP hD
                    refine lv_aload_n hx hb d_T_takeOut_155 rfl (lv_at hl 4 rfl) ?_
                    refine lv_dup hx hb d_T_takeOut_156 rfl ?_
                    refine f_get S cls_T hK hP 0 rfl 3 (by decide) fl_T_head rfl rfl d_T_takeOut_157 ?_
                    refine lv_iconst (v := 0) hx hb d_T_takeOut_160 (by decide) ?_
                    refine lv_iload_n hx hb d_T_takeOut_161 rfl (lv_at hl 3 rfl) ?_
                    refine lv_aload_n hx hb d_T_takeOut_162 rfl (lv_at hl 4 rfl) ?_
                    refine f_get S cls_T hK hP 0 rfl 3 (by decide) fl_T_head rfl rfl d_T_takeOut_163 ?_
                    refine lv_iload_n hx hb d_T_takeOut_166 rfl (lv_at hl 5 rfl) ?_
                    refine lv_isub hx hb d_T_takeOut_167 ?_
                    refine va_mmin hx hb (hml.trans hl.1.symm) hown (hts _ kx_T_62) (hts _ xs_Math_min) (hts _ in_java_lang_Math) (hts _ xc_Math_min) (Nat.le_of_ble_eq_true rfl) (Nat.le_of_ble_eq_true rfl) (Nat.zero_le _) (Nat.zero_le _) d_T_takeOut_168 ?_
                    refine lv_tope (z := mn2 (y + 1) ((g7 3) - x)) rfl ?_
                    refine va_mmax hx hb (hml.trans hl.1.symm) hown (hts _ kx_T_99) (hts _ xs_Math_max) (hts _ in_java_lang_Math) (hts _ xc_Math_max) (Nat.le_of_ble_eq_true rfl) (Nat.le_of_ble_eq_true rfl) (Nat.zero_le _) (Nat.zero_le _) d_T_takeOut_171 ?_
                    refine lv_tope (z := mx2 0 (mn2 (y + 1) ((g7 3) - x))) rfl ?_
                    refine lv_isub hx hb d_T_takeOut_174 ?_
                    refine T_put S hK hP hD hS 3 (by decide) fl_T_head d_T_takeOut_175 (fun H locs hP hD hS => ?_)
                    obtain ⟨g8, hg8⟩ : ∃ z : Nat → Int32, z = upd g7 3 ((g7 3) - (mx2 0 (mn2 (y + 1) ((g7 3) - x)))) := ⟨_, rfl⟩
                    rw [← hg8] at hP hD
                    refine lv_aload_n hx hb d_T_takeOut_178 rfl (lv_at hl 4 rfl) ?_
                    refine lv_dup hx hb d_T_takeOut_179 rfl ?_
                    refine f_get S cls_T hK hP 0 rfl 4 (by decide) fl_T_splices rfl rfl d_T_takeOut_180 ?_
                    refine lv_iconst (v := 1) hx hb d_T_takeOut_183 (by decide) ?_
                    refine lv_iadd hx hb d_T_takeOut_184 ?_
                    refine T_put S hK hP hD hS 4 (by decide) fl_T_splices d_T_takeOut_185 (fun H locs hP hD hS => ?_)
                    obtain ⟨g9, hg9⟩ : ∃ z : Nat → Int32, z = upd g8 4 ((g8 4) + 1) := ⟨_, rfl⟩
                    rw [← hg9] at hP hD
                    refine lv_aload_n hx hb d_T_takeOut_188 rfl (lv_at hl 4 rfl) ?_
                    refine lv_dup hx hb d_T_takeOut_189 rfl ?_
                    refine f_get S cls_T hK hP 0 rfl 5 (by decide) fl_T_feetTakenOut rfl rfl d_T_takeOut_190 ?_
                    refine lv_iload_n hx hb d_T_takeOut_193 rfl (lv_at hl 3 rfl) ?_
                    refine lv_iadd hx hb d_T_takeOut_194 ?_
                    refine T_put S hK hP hD hS 5 (by decide) fl_T_feetTakenOut d_T_takeOut_195 (fun H locs hP hD hS => ?_)
                    obtain ⟨g10, hg10⟩ : ∃ z : Nat → Int32, z = upd g9 5 ((g9 5) + (y + 1)) := ⟨_, rfl⟩
                    rw [← hg10] at hP hD
                    refine lv_aload_n hx hb d_T_takeOut_198 rfl (lv_at hl 4 rfl) ?_
                    refine f_get S cls_T hK hP 0 rfl 0 (by decide) fl_T_feet rfl rfl d_T_takeOut_199 ?_
                    exact hret _ _ _ _ _ _ d_T_takeOut_202 rfl (by subst hg5 hg6 hg7 hg8 hg9 hg10; first | (simp only [s_spl, s_s2, s_k1, s_k2, Bool.false_eq_true, or_self, or_true, true_or, or_false, false_or, c_1, c_9, c_14, c_20, ← hv, c_42, hcr, c_55, c_73, c_86, c_115, ↓reduceIte]; done) | (simp only [s_spl, s_s2, s_k1, s_k2, Bool.false_eq_true, or_self, or_true, true_or, or_false, false_or, c_1, c_9, c_14, c_20, ← hv, c_42, hcr, c_55, c_73, c_86, c_115, ↓reduceIte]; rfl) | rfl) (by subst hg5 hg6 hg7 hg8 hg9 hg10; first | (simp only [s_spl, s_s2, s_k1, s_k2, Bool.false_eq_true, or_self, or_true, true_or, or_false, false_or, c_1, c_9, c_14, c_20, ← hv, c_42, hcr, c_55, c_73, c_86, c_115, ↓reduceIte]; done) | (simp only [s_spl, s_s2, s_k1, s_k2, Bool.false_eq_true, or_self, or_true, true_or, or_false, false_or, c_1, c_9, c_14, c_20, ← hv, c_42, hcr, c_55, c_73, c_86, c_115, ↓reduceIte]; rfl) | rfl) hP hD hS
                  · refine lv_bipush (v := (-4)) hx hb d_T_takeOut_118 (by decide) ?_
                    exact hret _ _ _ _ _ _ d_T_takeOut_120 rfl (by first | (simp only [s_spl, s_s2, s_k1, s_k2, Bool.false_eq_true, or_self, or_true, true_or, or_false, false_or, c_1, c_9, c_14, c_20, ← hv, c_42, hcr, c_55, c_73, c_86, c_115, ↓reduceIte]; done) | (simp only [s_spl, s_s2, s_k1, s_k2, Bool.false_eq_true, or_self, or_true, true_or, or_false, false_or, c_1, c_9, c_14, c_20, ← hv, c_42, hcr, c_55, c_73, c_86, c_115, ↓reduceIte]; rfl) | rfl) (by first | (simp only [s_spl, s_s2, s_k1, s_k2, Bool.false_eq_true, or_self, or_true, true_or, or_false, false_or, c_1, c_9, c_14, c_20, ← hv, c_42, hcr, c_55, c_73, c_86, c_115, ↓reduceIte]; done) | (simp only [s_spl, s_s2, s_k1, s_k2, Bool.false_eq_true, or_self, or_true, true_or, or_false, false_or, c_1, c_9, c_14, c_20, ← hv, c_42, hcr, c_55, c_73, c_86, c_115, ↓reduceIte]; rfl) | rfl) hP hD hS
            · refine lv_iconst (v := 1) hx hb d_T_takeOut_58 (by decide) ?_
              refine lv_goto (tgt := 63) hx hb d_T_takeOut_59 (by decide) ?_
              refine lv_istore (lv' := [(5, .int 1), (4, .int (nI r)), (3, .int (y + 1)), (0, .ref (t 0)), (1, .int x), (2, .int y)]) hx hb d_T_takeOut_63 hl (by decide) rfl (fun ls hl => ?_)
              refine lv_aload_n hx hb d_T_takeOut_65 rfl (lv_at hl 3 rfl) ?_
              refine lv_iload_n hx hb d_T_takeOut_66 rfl (lv_at hl 4 rfl) ?_
              refine lv_iload_n hx hb d_T_takeOut_67 rfl (lv_at hl 4 rfl) ?_
              refine lv_iload_n hx hb d_T_takeOut_68 rfl (lv_at hl 2 rfl) ?_
              refine lv_iadd hx hb d_T_takeOut_69 ?_
              refine T_ro S (c_T_isInGap l D ca t g x (x + (y + 1)) hB) k_T_96 rfl hP hK rfl rfl hl.1 ⟨Nat.le_of_ble_eq_true rfl, Nat.le_of_ble_eq_true rfl⟩ ⟨Nat.zero_le _, Nat.zero_le _⟩ (Nat.le_of_ble_eq_true rfl) d_T_takeOut_70 ?_
              refine lv_if_eq (tgt := 93) hx hb d_T_takeOut_73 (by decide) (fun c_73 => ?_) (fun c_73 => ?_)
              · refine lv_iconst (v := 0) hx hb d_T_takeOut_93 (by decide) ?_
                refine lv_istore (lv' := [(6, .int 0), (5, .int 1), (4, .int (nI r)), (3, .int (y + 1)), (0, .ref (t 0)), (1, .int x), (2, .int y)]) hx hb d_T_takeOut_94 hl (by decide) rfl (fun ls hl => ?_)
                refine lv_iload hx hb d_T_takeOut_96 (lv_at hl 1 rfl) ?_
                refine lv_if_ne (tgt := 109) hx hb d_T_takeOut_98 (by decide) (fun _ => ?_) (fun q => absurd q (by decide))
                refine lv_aload_n hx hb d_T_takeOut_109 rfl (lv_at hl 4 rfl) ?_
                refine f_get S cls_T hK hP 0 rfl 4 (by decide) fl_T_splices rfl rfl d_T_takeOut_110 ?_
                refine lv_bipush (v := 9) hx hb d_T_takeOut_113 (by decide) ?_
                refine lv_icmp_lt (tgt := 121) hx hb d_T_takeOut_115 (by decide) (fun c_115 => ?_) (fun c_115 => ?_)
                · refine lv_iload hx hb d_T_takeOut_121 (lv_at hl 2 rfl) ?_
                  refine lv_if_lt (tgt := 145) hx hb d_T_takeOut_123 (by decide) (fun q => absurd q (c_42)) (fun _ => ?_)
                  refine lv_aload_n hx hb d_T_takeOut_126 rfl (lv_at hl 4 rfl) ?_
                  refine f_get S cls_T hK hP 0 rfl 9 (by decide) fl_T_data rfl rfl d_T_takeOut_127 ?_
                  refine lv_iload hx hb d_T_takeOut_130 (lv_at hl 2 rfl) ?_
                  refine lv_dup2_11 hx hb d_T_takeOut_132 rfl rfl ?_
                  refine T_ar 0 (by decide) S hK hP (r := r) (by omega) rfl d_T_takeOut_133 ?_
                  refine lv_iload_n hx hb d_T_takeOut_134 rfl (lv_at hl 3 rfl) ?_
                  refine lv_isub hx hb d_T_takeOut_135 ?_
                  refine T_arst 0 (by decide) S hK hP hD hS (r := r) (by omega) rfl d_T_takeOut_136 (fun H locs hP hD hS => ?_)
                  obtain ⟨g11, hg11⟩ : ∃ z : Nat → Int32, z = upd g (10 + 4 * r + 0) ((g (10 + 4 * r + 0)) - (y + 1)) := ⟨_, rfl⟩
                  rw [← hg11] at hP hD
                  refine lv_aload_n hx hb d_T_takeOut_137 rfl (lv_at hl 4 rfl) ?_
                  refine f_get S cls_T hK hP 0 rfl 10 (by decide) fl_T_sums rfl rfl d_T_takeOut_138 ?_
                  refine lv_iload hx hb d_T_takeOut_141 (lv_at hl 2 rfl) ?_
                  refine lv_iconst (v := 0) hx hb d_T_takeOut_143 (by decide) ?_
                  refine T_arst 1 (by decide) S hK hP hD hS (r := r) (by omega) rfl d_T_takeOut_144 (fun H locs hP hD hS => ?_)
                  obtain ⟨g12, hg12⟩ : ∃ z : Nat → Int32, z = upd g11 (10 + 4 * r + 1) 0 := ⟨_, rfl⟩
                  rw [← hg12] at hP hD
                  refine lv_aload_n hx hb d_T_takeOut_145 rfl (lv_at hl 4 rfl) ?_
                  refine lv_dup hx hb d_T_takeOut_146 rfl ?_
                  refine f_get S cls_T hK hP 0 rfl 0 (by decide) fl_T_feet rfl rfl d_T_takeOut_147 ?_
                  refine lv_iload_n hx hb d_T_takeOut_150 rfl (lv_at hl 3 rfl) ?_
                  refine lv_isub hx hb d_T_takeOut_151 ?_
                  refine T_put S hK hP hD hS 0 (by decide) fl_T_feet d_T_takeOut_152 (fun H locs hP hD hS => ?_)
                  obtain ⟨g13, hg13⟩ : ∃ z : Nat → Int32, z = upd g12 0 ((g12 0) - (y + 1)) := ⟨_, rfl⟩
                  rw [← hg13] at hP hD
                  refine lv_aload_n hx hb d_T_takeOut_155 rfl (lv_at hl 4 rfl) ?_
                  refine lv_dup hx hb d_T_takeOut_156 rfl ?_
                  refine f_get S cls_T hK hP 0 rfl 3 (by decide) fl_T_head rfl rfl d_T_takeOut_157 ?_
                  refine lv_iconst (v := 0) hx hb d_T_takeOut_160 (by decide) ?_
                  refine lv_iload_n hx hb d_T_takeOut_161 rfl (lv_at hl 3 rfl) ?_
                  refine lv_aload_n hx hb d_T_takeOut_162 rfl (lv_at hl 4 rfl) ?_
                  refine f_get S cls_T hK hP 0 rfl 3 (by decide) fl_T_head rfl rfl d_T_takeOut_163 ?_
                  refine lv_iload_n hx hb d_T_takeOut_166 rfl (lv_at hl 5 rfl) ?_
                  refine lv_isub hx hb d_T_takeOut_167 ?_
                  refine va_mmin hx hb (hml.trans hl.1.symm) hown (hts _ kx_T_62) (hts _ xs_Math_min) (hts _ in_java_lang_Math) (hts _ xc_Math_min) (Nat.le_of_ble_eq_true rfl) (Nat.le_of_ble_eq_true rfl) (Nat.zero_le _) (Nat.zero_le _) d_T_takeOut_168 ?_
                  refine lv_tope (z := mn2 (y + 1) ((g13 3) - x)) rfl ?_
                  refine va_mmax hx hb (hml.trans hl.1.symm) hown (hts _ kx_T_99) (hts _ xs_Math_max) (hts _ in_java_lang_Math) (hts _ xc_Math_max) (Nat.le_of_ble_eq_true rfl) (Nat.le_of_ble_eq_true rfl) (Nat.zero_le _) (Nat.zero_le _) d_T_takeOut_171 ?_
                  refine lv_tope (z := mx2 0 (mn2 (y + 1) ((g13 3) - x))) rfl ?_
                  refine lv_isub hx hb d_T_takeOut_174 ?_
                  refine T_put S hK hP hD hS 3 (by decide) fl_T_head d_T_takeOut_175 (fun H locs hP hD hS => ?_)
                  obtain ⟨g14, hg14⟩ : ∃ z : Nat → Int32, z = upd g13 3 ((g13 3) - (mx2 0 (mn2 (y + 1) ((g13 3) - x)))) := ⟨_, rfl⟩
                  rw [← hg14] at hP hD
                  refine lv_aload_n hx hb d_T_takeOut_178 rfl (lv_at hl 4 rfl) ?_
                  refine lv_dup hx hb d_T_takeOut_179 rfl ?_
                  refine f_get S cls_T hK hP 0 rfl 4 (by decide) fl_T_splices rfl rfl d_T_takeOut_180 ?_
                  refine lv_iconst (v := 1) hx hb d_T_takeOut_183 (by decide) ?_
                  refine lv_iadd hx hb d_T_takeOut_184 ?_
                  refine T_put S hK hP hD hS 4 (by decide) fl_T_splices d_T_takeOut_185 (fun H locs hP hD hS => ?_)
                  obtain ⟨g15, hg15⟩ : ∃ z : Nat → Int32, z = upd g14 4 ((g14 4) + 1) := ⟨_, rfl⟩
                  rw [← hg15] at hP hD
                  refine lv_aload_n hx hb d_T_takeOut_188 rfl (lv_at hl 4 rfl) ?_
                  refine lv_dup hx hb d_T_takeOut_189 rfl ?_
                  refine f_get S cls_T hK hP 0 rfl 5 (by decide) fl_T_feetTakenOut rfl rfl d_T_takeOut_190 ?_
                  refine lv_iload_n hx hb d_T_takeOut_193 rfl (lv_at hl 3 rfl) ?_
                  refine lv_iadd hx hb d_T_takeOut_194 ?_
                  refine T_put S hK hP hD hS 5 (by decide) fl_T_feetTakenOut d_T_takeOut_195 (fun H locs hP hD hS => ?_)
                  obtain ⟨g16, hg16⟩ : ∃ z : Nat → Int32, z = upd g15 5 ((g15 5) + (y + 1)) := ⟨_, rfl⟩
                  rw [← hg16] at hP hD
                  refine lv_aload_n hx hb d_T_takeOut_198 rfl (lv_at hl 4 rfl) ?_
                  refine f_get S cls_T hK hP 0 rfl 0 (by decide) fl_T_feet rfl rfl d_T_takeOut_199 ?_
                  exact hret _ _ _ _ _ _ d_T_takeOut_202 rfl (by subst hg11 hg12 hg13 hg14 hg15 hg16; first | (simp only [s_spl, s_s2, s_k1, s_k2, Bool.false_eq_true, or_self, or_true, true_or, or_false, false_or, c_1, c_9, c_14, c_20, ← hv, c_42, hcr, c_55, c_73, c_115, ↓reduceIte]; done) | (simp only [s_spl, s_s2, s_k1, s_k2, Bool.false_eq_true, or_self, or_true, true_or, or_false, false_or, c_1, c_9, c_14, c_20, ← hv, c_42, hcr, c_55, c_73, c_115, ↓reduceIte]; rfl) | rfl) (by subst hg11 hg12 hg13 hg14 hg15 hg16; first | (simp only [s_spl, s_s2, s_k1, s_k2, Bool.false_eq_true, or_self, or_true, true_or, or_false, false_or, c_1, c_9, c_14, c_20, ← hv, c_42, hcr, c_55, c_73, c_115, ↓reduceIte]; done) | (simp only [s_spl, s_s2, s_k1, s_k2, Bool.false_eq_true, or_self, or_true, true_or, or_false, false_or, c_1, c_9, c_14, c_20, ← hv, c_42, hcr, c_55, c_73, c_115, ↓reduceIte]; rfl) | rfl) hP hD hS
                · refine lv_bipush (v := (-4)) hx hb d_T_takeOut_118 (by decide) ?_
                  exact hret _ _ _ _ _ _ d_T_takeOut_120 rfl (by first | (simp only [s_spl, s_s2, s_k1, s_k2, Bool.false_eq_true, or_self, or_true, true_or, or_false, false_or, c_1, c_9, c_14, c_20, ← hv, c_42, hcr, c_55, c_73, c_115, ↓reduceIte]; done) | (simp only [s_spl, s_s2, s_k1, s_k2, Bool.false_eq_true, or_self, or_true, true_or, or_false, false_or, c_1, c_9, c_14, c_20, ← hv, c_42, hcr, c_55, c_73, c_115, ↓reduceIte]; rfl) | rfl) (by first | (simp only [s_spl, s_s2, s_k1, s_k2, Bool.false_eq_true, or_self, or_true, true_or, or_false, false_or, c_1, c_9, c_14, c_20, ← hv, c_42, hcr, c_55, c_73, c_115, ↓reduceIte]; done) | (simp only [s_spl, s_s2, s_k1, s_k2, Bool.false_eq_true, or_self, or_true, true_or, or_false, false_or, c_1, c_9, c_14, c_20, ← hv, c_42, hcr, c_55, c_73, c_115, ↓reduceIte]; rfl) | rfl) hP hD hS
              · refine lv_aload_n hx hb d_T_takeOut_76 rfl (lv_at hl 3 rfl) ?_
                refine T_ro S (c_T_gap l D ca t g  hB) k_T_68 rfl hP hK rfl rfl hl.1 ⟨Nat.le_of_ble_eq_true rfl, Nat.le_of_ble_eq_true rfl⟩ ⟨Nat.zero_le _, Nat.zero_le _⟩ (Nat.le_of_ble_eq_true rfl) d_T_takeOut_77 ?_
                refine lv_iload_n hx hb d_T_takeOut_80 rfl (lv_at hl 2 rfl) ?_
                refine lv_isub hx hb d_T_takeOut_81 ?_
                refine lv_aload_n hx hb d_T_takeOut_82 rfl (lv_at hl 3 rfl) ?_
                refine f_get S cls_T hK hP 0 rfl 1 (by decide) fl_T_leastGap rfl rfl d_T_takeOut_83 ?_
                refine lv_icmp_lt (tgt := 93) hx hb d_T_takeOut_86 (by decide) (fun c_86 => ?_) (fun c_86 => ?_)
                · refine lv_iconst (v := 0) hx hb d_T_takeOut_93 (by decide) ?_
                  refine lv_istore (lv' := [(6, .int 0), (5, .int 1), (4, .int (nI r)), (3, .int (y + 1)), (0, .ref (t 0)), (1, .int x), (2, .int y)]) hx hb d_T_takeOut_94 hl (by decide) rfl (fun ls hl => ?_)
                  refine lv_iload hx hb d_T_takeOut_96 (lv_at hl 1 rfl) ?_
                  refine lv_if_ne (tgt := 109) hx hb d_T_takeOut_98 (by decide) (fun _ => ?_) (fun q => absurd q (by decide))
                  refine lv_aload_n hx hb d_T_takeOut_109 rfl (lv_at hl 4 rfl) ?_
                  refine f_get S cls_T hK hP 0 rfl 4 (by decide) fl_T_splices rfl rfl d_T_takeOut_110 ?_
                  refine lv_bipush (v := 9) hx hb d_T_takeOut_113 (by decide) ?_
                  refine lv_icmp_lt (tgt := 121) hx hb d_T_takeOut_115 (by decide) (fun c_115 => ?_) (fun c_115 => ?_)
                  · refine lv_iload hx hb d_T_takeOut_121 (lv_at hl 2 rfl) ?_
                    refine lv_if_lt (tgt := 145) hx hb d_T_takeOut_123 (by decide) (fun q => absurd q (c_42)) (fun _ => ?_)
                    refine lv_aload_n hx hb d_T_takeOut_126 rfl (lv_at hl 4 rfl) ?_
                    refine f_get S cls_T hK hP 0 rfl 9 (by decide) fl_T_data rfl rfl d_T_takeOut_127 ?_
                    refine lv_iload hx hb d_T_takeOut_130 (lv_at hl 2 rfl) ?_
                    refine lv_dup2_11 hx hb d_T_takeOut_132 rfl rfl ?_
                    refine T_ar 0 (by decide) S hK hP (r := r) (by omega) rfl d_T_takeOut_133 ?_
                    refine lv_iload_n hx hb d_T_takeOut_134 rfl (lv_at hl 3 rfl) ?_
                    refine lv_isub hx hb d_T_takeOut_135 ?_
                    refine T_arst 0 (by decide) S hK hP hD hS (r := r) (by omega) rfl d_T_takeOut_136 (fun H locs hP hD hS => ?_)
                    obtain ⟨g17, hg17⟩ : ∃ z : Nat → Int32, z = upd g (10 + 4 * r + 0) ((g (10 + 4 * r + 0)) - (y + 1)) := ⟨_, rfl⟩
                    rw [← hg17] at hP hD
                    refine lv_aload_n hx hb d_T_takeOut_137 rfl (lv_at hl 4 rfl) ?_
                    refine f_get S cls_T hK hP 0 rfl 10 (by decide) fl_T_sums rfl rfl d_T_takeOut_138 ?_
                    refine lv_iload hx hb d_T_takeOut_141 (lv_at hl 2 rfl) ?_
                    refine lv_iconst (v := 0) hx hb d_T_takeOut_143 (by decide) ?_
                    refine T_arst 1 (by decide) S hK hP hD hS (r := r) (by omega) rfl d_T_takeOut_144 (fun H locs hP hD hS => ?_)
                    obtain ⟨g18, hg18⟩ : ∃ z : Nat → Int32, z = upd g17 (10 + 4 * r + 1) 0 := ⟨_, rfl⟩
                    rw [← hg18] at hP hD
                    refine lv_aload_n hx hb d_T_takeOut_145 rfl (lv_at hl 4 rfl) ?_
                    refine lv_dup hx hb d_T_takeOut_146 rfl ?_
                    refine f_get S cls_T hK hP 0 rfl 0 (by decide) fl_T_feet rfl rfl d_T_takeOut_147 ?_
                    refine lv_iload_n hx hb d_T_takeOut_150 rfl (lv_at hl 3 rfl) ?_
                    refine lv_isub hx hb d_T_takeOut_151 ?_
                    refine T_put S hK hP hD hS 0 (by decide) fl_T_feet d_T_takeOut_152 (fun H locs hP hD hS => ?_)
                    obtain ⟨g19, hg19⟩ : ∃ z : Nat → Int32, z = upd g18 0 ((g18 0) - (y + 1)) := ⟨_, rfl⟩
                    rw [← hg19] at hP hD
                    refine lv_aload_n hx hb d_T_takeOut_155 rfl (lv_at hl 4 rfl) ?_
                    refine lv_dup hx hb d_T_takeOut_156 rfl ?_
                    refine f_get S cls_T hK hP 0 rfl 3 (by decide) fl_T_head rfl rfl d_T_takeOut_157 ?_
                    refine lv_iconst (v := 0) hx hb d_T_takeOut_160 (by decide) ?_
                    refine lv_iload_n hx hb d_T_takeOut_161 rfl (lv_at hl 3 rfl) ?_
                    refine lv_aload_n hx hb d_T_takeOut_162 rfl (lv_at hl 4 rfl) ?_
                    refine f_get S cls_T hK hP 0 rfl 3 (by decide) fl_T_head rfl rfl d_T_takeOut_163 ?_
                    refine lv_iload_n hx hb d_T_takeOut_166 rfl (lv_at hl 5 rfl) ?_
                    refine lv_isub hx hb d_T_takeOut_167 ?_
                    refine va_mmin hx hb (hml.trans hl.1.symm) hown (hts _ kx_T_62) (hts _ xs_Math_min) (hts _ in_java_lang_Math) (hts _ xc_Math_min) (Nat.le_of_ble_eq_true rfl) (Nat.le_of_ble_eq_true rfl) (Nat.zero_le _) (Nat.zero_le _) d_T_takeOut_168 ?_
                    refine lv_tope (z := mn2 (y + 1) ((g19 3) - x)) rfl ?_
                    refine va_mmax hx hb (hml.trans hl.1.symm) hown (hts _ kx_T_99) (hts _ xs_Math_max) (hts _ in_java_lang_Math) (hts _ xc_Math_max) (Nat.le_of_ble_eq_true rfl) (Nat.le_of_ble_eq_true rfl) (Nat.zero_le _) (Nat.zero_le _) d_T_takeOut_171 ?_
                    refine lv_tope (z := mx2 0 (mn2 (y + 1) ((g19 3) - x))) rfl ?_
                    refine lv_isub hx hb d_T_takeOut_174 ?_
                    refine T_put S hK hP hD hS 3 (by decide) fl_T_head d_T_takeOut_175 (fun H locs hP hD hS => ?_)
                    obtain ⟨g20, hg20⟩ : ∃ z : Nat → Int32, z = upd g19 3 ((g19 3) - (mx2 0 (mn2 (y + 1) ((g19 3) - x)))) := ⟨_, rfl⟩
                    rw [← hg20] at hP hD
                    refine lv_aload_n hx hb d_T_takeOut_178 rfl (lv_at hl 4 rfl) ?_
                    refine lv_dup hx hb d_T_takeOut_179 rfl ?_
                    refine f_get S cls_T hK hP 0 rfl 4 (by decide) fl_T_splices rfl rfl d_T_takeOut_180 ?_
                    refine lv_iconst (v := 1) hx hb d_T_takeOut_183 (by decide) ?_
                    refine lv_iadd hx hb d_T_takeOut_184 ?_
                    refine T_put S hK hP hD hS 4 (by decide) fl_T_splices d_T_takeOut_185 (fun H locs hP hD hS => ?_)
                    obtain ⟨g21, hg21⟩ : ∃ z : Nat → Int32, z = upd g20 4 ((g20 4) + 1) := ⟨_, rfl⟩
                    rw [← hg21] at hP hD
                    refine lv_aload_n hx hb d_T_takeOut_188 rfl (lv_at hl 4 rfl) ?_
                    refine lv_dup hx hb d_T_takeOut_189 rfl ?_
                    refine f_get S cls_T hK hP 0 rfl 5 (by decide) fl_T_feetTakenOut rfl rfl d_T_takeOut_190 ?_
                    refine lv_iload_n hx hb d_T_takeOut_193 rfl (lv_at hl 3 rfl) ?_
                    refine lv_iadd hx hb d_T_takeOut_194 ?_
                    refine T_put S hK hP hD hS 5 (by decide) fl_T_feetTakenOut d_T_takeOut_195 (fun H locs hP hD hS => ?_)
                    obtain ⟨g22, hg22⟩ : ∃ z : Nat → Int32, z = upd g21 5 ((g21 5) + (y + 1)) := ⟨_, rfl⟩
                    rw [← hg22] at hP hD
                    refine lv_aload_n hx hb d_T_takeOut_198 rfl (lv_at hl 4 rfl) ?_
                    refine f_get S cls_T hK hP 0 rfl 0 (by decide) fl_T_feet rfl rfl d_T_takeOut_199 ?_
                    exact hret _ _ _ _ _ _ d_T_takeOut_202 rfl (by subst hg17 hg18 hg19 hg20 hg21 hg22; first | (simp only [s_spl, s_s2, s_k1, s_k2, Bool.false_eq_true, or_self, or_true, true_or, or_false, false_or, c_1, c_9, c_14, c_20, ← hv, c_42, hcr, c_55, c_73, c_86, c_115, ↓reduceIte]; done) | (simp only [s_spl, s_s2, s_k1, s_k2, Bool.false_eq_true, or_self, or_true, true_or, or_false, false_or, c_1, c_9, c_14, c_20, ← hv, c_42, hcr, c_55, c_73, c_86, c_115, ↓reduceIte]; rfl) | rfl) (by subst hg17 hg18 hg19 hg20 hg21 hg22; first | (simp only [s_spl, s_s2, s_k1, s_k2, Bool.false_eq_true, or_self, or_true, true_or, or_false, false_or, c_1, c_9, c_14, c_20, ← hv, c_42, hcr, c_55, c_73, c_86, c_115, ↓reduceIte]; done) | (simp only [s_spl, s_s2, s_k1, s_k2, Bool.false_eq_true, or_self, or_true, true_or, or_false, false_or, c_1, c_9, c_14, c_20, ← hv, c_42, hcr, c_55, c_73, c_86, c_115, ↓reduceIte]; rfl) | rfl) hP hD hS
                  · refine lv_bipush (v := (-4)) hx hb d_T_takeOut_118 (by decide) ?_
                    exact hret _ _ _ _ _ _ d_T_takeOut_120 rfl (by first | (simp only [s_spl, s_s2, s_k1, s_k2, Bool.false_eq_true, or_self, or_true, true_or, or_false, false_or, c_1, c_9, c_14, c_20, ← hv, c_42, hcr, c_55, c_73, c_86, c_115, ↓reduceIte]; done) | (simp only [s_spl, s_s2, s_k1, s_k2, Bool.false_eq_true, or_self, or_true, true_or, or_false, false_or, c_1, c_9, c_14, c_20, ← hv, c_42, hcr, c_55, c_73, c_86, c_115, ↓reduceIte]; rfl) | rfl) (by first | (simp only [s_spl, s_s2, s_k1, s_k2, Bool.false_eq_true, or_self, or_true, true_or, or_false, false_or, c_1, c_9, c_14, c_20, ← hv, c_42, hcr, c_55, c_73, c_86, c_115, ↓reduceIte]; done) | (simp only [s_spl, s_s2, s_k1, s_k2, Bool.false_eq_true, or_self, or_true, true_or, or_false, false_or, c_1, c_9, c_14, c_20, ← hv, c_42, hcr, c_55, c_73, c_86, c_115, ↓reduceIte]; rfl) | rfl) hP hD hS
                · refine lv_iconst (v := 1) hx hb d_T_takeOut_89 (by decide) ?_
                  refine lv_goto (tgt := 94) hx hb d_T_takeOut_90 (by decide) ?_
                  refine lv_istore (lv' := [(6, .int 1), (5, .int 1), (4, .int (nI r)), (3, .int (y + 1)), (0, .ref (t 0)), (1, .int x), (2, .int y)]) hx hb d_T_takeOut_94 hl (by decide) rfl (fun ls hl => ?_)
                  refine lv_iload hx hb d_T_takeOut_96 (lv_at hl 1 rfl) ?_
                  refine lv_if_ne (tgt := 109) hx hb d_T_takeOut_98 (by decide) (fun _ => ?_) (fun q => absurd q (by decide))
                  refine lv_aload_n hx hb d_T_takeOut_109 rfl (lv_at hl 4 rfl) ?_
                  refine f_get S cls_T hK hP 0 rfl 4 (by decide) fl_T_splices rfl rfl d_T_takeOut_110 ?_
                  refine lv_bipush (v := 9) hx hb d_T_takeOut_113 (by decide) ?_
                  refine lv_icmp_lt (tgt := 121) hx hb d_T_takeOut_115 (by decide) (fun c_115 => ?_) (fun c_115 => ?_)
                  · refine lv_iload hx hb d_T_takeOut_121 (lv_at hl 2 rfl) ?_
                    refine lv_if_lt (tgt := 145) hx hb d_T_takeOut_123 (by decide) (fun q => absurd q (c_42)) (fun _ => ?_)
                    refine lv_aload_n hx hb d_T_takeOut_126 rfl (lv_at hl 4 rfl) ?_
                    refine f_get S cls_T hK hP 0 rfl 9 (by decide) fl_T_data rfl rfl d_T_takeOut_127 ?_
                    refine lv_iload hx hb d_T_takeOut_130 (lv_at hl 2 rfl) ?_
                    refine lv_dup2_11 hx hb d_T_takeOut_132 rfl rfl ?_
                    refine T_ar 0 (by decide) S hK hP (r := r) (by omega) rfl d_T_takeOut_133 ?_
                    refine lv_iload_n hx hb d_T_takeOut_134 rfl (lv_at hl 3 rfl) ?_
                    refine lv_isub hx hb d_T_takeOut_135 ?_
                    refine T_arst 0 (by decide) S hK hP hD hS (r := r) (by omega) rfl d_T_takeOut_136 (fun H locs hP hD hS => ?_)
                    obtain ⟨g23, hg23⟩ : ∃ z : Nat → Int32, z = upd g (10 + 4 * r + 0) ((g (10 + 4 * r + 0)) - (y + 1)) := ⟨_, rfl⟩
                    rw [← hg23] at hP hD
                    refine lv_aload_n hx hb d_T_takeOut_137 rfl (lv_at hl 4 rfl) ?_
                    refine f_get S cls_T hK hP 0 rfl 10 (by decide) fl_T_sums rfl rfl d_T_takeOut_138 ?_
                    refine lv_iload hx hb d_T_takeOut_141 (lv_at hl 2 rfl) ?_
                    refine lv_iconst (v := 0) hx hb d_T_takeOut_143 (by decide) ?_
                    refine T_arst 1 (by decide) S hK hP hD hS (r := r) (by omega) rfl d_T_takeOut_144 (fun H locs hP hD hS => ?_)
                    obtain ⟨g24, hg24⟩ : ∃ z : Nat → Int32, z = upd g23 (10 + 4 * r + 1) 0 := ⟨_, rfl⟩
                    rw [← hg24] at hP hD
                    refine lv_aload_n hx hb d_T_takeOut_145 rfl (lv_at hl 4 rfl) ?_
                    refine lv_dup hx hb d_T_takeOut_146 rfl ?_
                    refine f_get S cls_T hK hP 0 rfl 0 (by decide) fl_T_feet rfl rfl d_T_takeOut_147 ?_
                    refine lv_iload_n hx hb d_T_takeOut_150 rfl (lv_at hl 3 rfl) ?_
                    refine lv_isub hx hb d_T_takeOut_151 ?_
                    refine T_put S hK hP hD hS 0 (by decide) fl_T_feet d_T_takeOut_152 (fun H locs hP hD hS => ?_)
                    obtain ⟨g25, hg25⟩ : ∃ z : Nat → Int32, z = upd g24 0 ((g24 0) - (y + 1)) := ⟨_, rfl⟩
                    rw [← hg25] at hP hD
                    refine lv_aload_n hx hb d_T_takeOut_155 rfl (lv_at hl 4 rfl) ?_
                    refine lv_dup hx hb d_T_takeOut_156 rfl ?_
                    refine f_get S cls_T hK hP 0 rfl 3 (by decide) fl_T_head rfl rfl d_T_takeOut_157 ?_
                    refine lv_iconst (v := 0) hx hb d_T_takeOut_160 (by decide) ?_
                    refine lv_iload_n hx hb d_T_takeOut_161 rfl (lv_at hl 3 rfl) ?_
                    refine lv_aload_n hx hb d_T_takeOut_162 rfl (lv_at hl 4 rfl) ?_
                    refine f_get S cls_T hK hP 0 rfl 3 (by decide) fl_T_head rfl rfl d_T_takeOut_163 ?_
                    refine lv_iload_n hx hb d_T_takeOut_166 rfl (lv_at hl 5 rfl) ?_
                    refine lv_isub hx hb d_T_takeOut_167 ?_
                    refine va_mmin hx hb (hml.trans hl.1.symm) hown (hts _ kx_T_62) (hts _ xs_Math_min) (hts _ in_java_lang_Math) (hts _ xc_Math_min) (Nat.le_of_ble_eq_true rfl) (Nat.le_of_ble_eq_true rfl) (Nat.zero_le _) (Nat.zero_le _) d_T_takeOut_168 ?_
                    refine lv_tope (z := mn2 (y + 1) ((g25 3) - x)) rfl ?_
                    refine va_mmax hx hb (hml.trans hl.1.symm) hown (hts _ kx_T_99) (hts _ xs_Math_max) (hts _ in_java_lang_Math) (hts _ xc_Math_max) (Nat.le_of_ble_eq_true rfl) (Nat.le_of_ble_eq_true rfl) (Nat.zero_le _) (Nat.zero_le _) d_T_takeOut_171 ?_
                    refine lv_tope (z := mx2 0 (mn2 (y + 1) ((g25 3) - x))) rfl ?_
                    refine lv_isub hx hb d_T_takeOut_174 ?_
                    refine T_put S hK hP hD hS 3 (by decide) fl_T_head d_T_takeOut_175 (fun H locs hP hD hS => ?_)
                    obtain ⟨g26, hg26⟩ : ∃ z : Nat → Int32, z = upd g25 3 ((g25 3) - (mx2 0 (mn2 (y + 1) ((g25 3) - x)))) := ⟨_, rfl⟩
                    rw [← hg26] at hP hD
                    refine lv_aload_n hx hb d_T_takeOut_178 rfl (lv_at hl 4 rfl) ?_
                    refine lv_dup hx hb d_T_takeOut_179 rfl ?_
                    refine f_get S cls_T hK hP 0 rfl 4 (by decide) fl_T_splices rfl rfl d_T_takeOut_180 ?_
                    refine lv_iconst (v := 1) hx hb d_T_takeOut_183 (by decide) ?_
                    refine lv_iadd hx hb d_T_takeOut_184 ?_
                    refine T_put S hK hP hD hS 4 (by decide) fl_T_splices d_T_takeOut_185 (fun H locs hP hD hS => ?_)
                    obtain ⟨g27, hg27⟩ : ∃ z : Nat → Int32, z = upd g26 4 ((g26 4) + 1) := ⟨_, rfl⟩
                    rw [← hg27] at hP hD
                    refine lv_aload_n hx hb d_T_takeOut_188 rfl (lv_at hl 4 rfl) ?_
                    refine lv_dup hx hb d_T_takeOut_189 rfl ?_
                    refine f_get S cls_T hK hP 0 rfl 5 (by decide) fl_T_feetTakenOut rfl rfl d_T_takeOut_190 ?_
                    refine lv_iload_n hx hb d_T_takeOut_193 rfl (lv_at hl 3 rfl) ?_
                    refine lv_iadd hx hb d_T_takeOut_194 ?_
                    refine T_put S hK hP hD hS 5 (by decide) fl_T_feetTakenOut d_T_takeOut_195 (fun H locs hP hD hS => ?_)
                    obtain ⟨g28, hg28⟩ : ∃ z : Nat → Int32, z = upd g27 5 ((g27 5) + (y + 1)) := ⟨_, rfl⟩
                    rw [← hg28] at hP hD
                    refine lv_aload_n hx hb d_T_takeOut_198 rfl (lv_at hl 4 rfl) ?_
                    refine f_get S cls_T hK hP 0 rfl 0 (by decide) fl_T_feet rfl rfl d_T_takeOut_199 ?_
                    exact hret _ _ _ _ _ _ d_T_takeOut_202 rfl (by subst hg23 hg24 hg25 hg26 hg27 hg28; first | (simp only [s_spl, s_s2, s_k1, s_k2, Bool.false_eq_true, or_self, or_true, true_or, or_false, false_or, c_1, c_9, c_14, c_20, ← hv, c_42, hcr, c_55, c_73, c_86, c_115, ↓reduceIte]; done) | (simp only [s_spl, s_s2, s_k1, s_k2, Bool.false_eq_true, or_self, or_true, true_or, or_false, false_or, c_1, c_9, c_14, c_20, ← hv, c_42, hcr, c_55, c_73, c_86, c_115, ↓reduceIte]; rfl) | rfl) (by subst hg23 hg24 hg25 hg26 hg27 hg28; first | (simp only [s_spl, s_s2, s_k1, s_k2, Bool.false_eq_true, or_self, or_true, true_or, or_false, false_or, c_1, c_9, c_14, c_20, ← hv, c_42, hcr, c_55, c_73, c_86, c_115, ↓reduceIte]; done) | (simp only [s_spl, s_s2, s_k1, s_k2, Bool.false_eq_true, or_self, or_true, true_or, or_false, false_or, c_1, c_9, c_14, c_20, ← hv, c_42, hcr, c_55, c_73, c_86, c_115, ↓reduceIte]; rfl) | rfl) hP hD hS
                  · refine lv_bipush (v := (-4)) hx hb d_T_takeOut_118 (by decide) ?_
                    exact hret _ _ _ _ _ _ d_T_takeOut_120 rfl (by first | (simp only [s_spl, s_s2, s_k1, s_k2, Bool.false_eq_true, or_self, or_true, true_or, or_false, false_or, c_1, c_9, c_14, c_20, ← hv, c_42, hcr, c_55, c_73, c_86, c_115, ↓reduceIte]; done) | (simp only [s_spl, s_s2, s_k1, s_k2, Bool.false_eq_true, or_self, or_true, true_or, or_false, false_or, c_1, c_9, c_14, c_20, ← hv, c_42, hcr, c_55, c_73, c_86, c_115, ↓reduceIte]; rfl) | rfl) (by first | (simp only [s_spl, s_s2, s_k1, s_k2, Bool.false_eq_true, or_self, or_true, true_or, or_false, false_or, c_1, c_9, c_14, c_20, ← hv, c_42, hcr, c_55, c_73, c_86, c_115, ↓reduceIte]; done) | (simp only [s_spl, s_s2, s_k1, s_k2, Bool.false_eq_true, or_self, or_true, true_or, or_false, false_or, c_1, c_9, c_14, c_20, ← hv, c_42, hcr, c_55, c_73, c_86, c_115, ↓reduceIte]; rfl) | rfl) hP hD hS
        · refine lv_bipush (v := (-2)) hx hb d_T_takeOut_23 (by decide) ?_
          exact hret _ _ _ _ _ _ d_T_takeOut_25 rfl (by first | (simp only [s_spl, s_s2, s_k1, s_k2, Bool.false_eq_true, or_self, or_true, true_or, or_false, false_or, c_1, c_9, c_14, c_20, ↓reduceIte]; done) | (simp only [s_spl, s_s2, s_k1, s_k2, Bool.false_eq_true, or_self, or_true, true_or, or_false, false_or, c_1, c_9, c_14, c_20, ↓reduceIte]; rfl) | rfl) (by first | (simp only [s_spl, s_s2, s_k1, s_k2, Bool.false_eq_true, or_self, or_true, true_or, or_false, false_or, c_1, c_9, c_14, c_20, ↓reduceIte]; done) | (simp only [s_spl, s_s2, s_k1, s_k2, Bool.false_eq_true, or_self, or_true, true_or, or_false, false_or, c_1, c_9, c_14, c_20, ↓reduceIte]; rfl) | rfl) hP hD hS
set_option maxHeartbeats 4000000 in
set_option maxRecDepth 100000 in
theorem c_T_copyFrom (l : Launch) (D : va_G) (ca : Nat → ClassId) (t t2 : Nat → Nat) (g g2 : Nat → Int32) : MV l y_T_copyFrom b_T_copyFrom 2 1 30 D ca [.ref (t 0), .ref (t2 0)] (tw ca t g ++ tw ca t2 g2) (tw ca t g2 ++ tw ca t2 g2) := by
  refine MV.mk rfl (Nat.le_of_ble_eq_true rfl) ?_
  intro p e s m args below meth c Q A S hA hP hD hK
  obtain ⟨hx, hb, hml, hown, hts⟩ := id S
  intro hret ls hl0 hS
  have hl : lv_has ls 2 [(0, .ref (t 0)), (1, .ref (t2 0))] := hl0
  refine lv_aload_n hx hb d_T_copyFrom_0 rfl (lv_at hl 0 rfl) ?_
  refine lv_aload_n hx hb d_T_copyFrom_1 rfl (lv_at hl 1 rfl) ?_
  refine f_get S cls_T hK hP 6 rfl 0 (by decide) fl_T_feet rfl rfl d_T_copyFrom_2 ?_
  refine f_put S cls_T hK hP hD hS 0 rfl 0 (by decide) fl_T_feet rfl rfl rfl rfl (Nat.le_of_ble_eq_true rfl) d_T_copyFrom_5 (fun H locs hP hD hS => ?_)
  have hP : va_P D classes ([(t 0, .inr (1, [.int (g2 0), .int (g 1), .int (g 2), .int (g 3), .int (g 4), .int (g 5), .int (g 6), .int (g 7), .ref (t 1), .ref (t 2), .ref (t 3), .ref (t 4), .ref (t 5)])), (t 1, .inl (ca 0, 2, .inl (tb g))), (t 2, .inl (ca 0, 40, .inl (td 0 g))), (t 3, .inl (ca 0, 40, .inl (td 1 g))), (t 4, .inl (ca 0, 40, .inl (td 2 g))), (t 5, .inl (ca 0, 40, .inl (td 3 g)))] ++ tw ca t2 g2) H := hP
  have hD : va_D A ([(t 0, .inr (1, [.int (g2 0), .int (g 1), .int (g 2), .int (g 3), .int (g 4), .int (g 5), .int (g 6), .int (g 7), .ref (t 1), .ref (t 2), .ref (t 3), .ref (t 4), .ref (t 5)])), (t 1, .inl (ca 0, 2, .inl (tb g))), (t 2, .inl (ca 0, 40, .inl (td 0 g))), (t 3, .inl (ca 0, 40, .inl (td 1 g))), (t 4, .inl (ca 0, 40, .inl (td 2 g))), (t 5, .inl (ca 0, 40, .inl (td 3 g)))] ++ tw ca t2 g2) := hD
  refine lv_aload_n hx hb d_T_copyFrom_8 rfl (lv_at hl 0 rfl) ?_
  refine lv_aload_n hx hb d_T_copyFrom_9 rfl (lv_at hl 1 rfl) ?_
  refine f_get S cls_T hK hP 6 rfl 1 (by decide) fl_T_leastGap rfl rfl d_T_copyFrom_10 ?_
  refine f_put S cls_T hK hP hD hS 0 rfl 1 (by decide) fl_T_leastGap rfl rfl rfl rfl (Nat.le_of_ble_eq_true rfl) d_T_copyFrom_13 (fun H locs hP hD hS => ?_)
  have hP : va_P D classes ([(t 0, .inr (1, [.int (g2 0), .int (g2 1), .int (g 2), .int (g 3), .int (g 4), .int (g 5), .int (g 6), .int (g 7), .ref (t 1), .ref (t 2), .ref (t 3), .ref (t 4), .ref (t 5)])), (t 1, .inl (ca 0, 2, .inl (tb g))), (t 2, .inl (ca 0, 40, .inl (td 0 g))), (t 3, .inl (ca 0, 40, .inl (td 1 g))), (t 4, .inl (ca 0, 40, .inl (td 2 g))), (t 5, .inl (ca 0, 40, .inl (td 3 g)))] ++ tw ca t2 g2) H := hP
  have hD : va_D A ([(t 0, .inr (1, [.int (g2 0), .int (g2 1), .int (g 2), .int (g 3), .int (g 4), .int (g 5), .int (g 6), .int (g 7), .ref (t 1), .ref (t 2), .ref (t 3), .ref (t 4), .ref (t 5)])), (t 1, .inl (ca 0, 2, .inl (tb g))), (t 2, .inl (ca 0, 40, .inl (td 0 g))), (t 3, .inl (ca 0, 40, .inl (td 1 g))), (t 4, .inl (ca 0, 40, .inl (td 2 g))), (t 5, .inl (ca 0, 40, .inl (td 3 g)))] ++ tw ca t2 g2) := hD
  refine lv_aload_n hx hb d_T_copyFrom_16 rfl (lv_at hl 0 rfl) ?_
  refine lv_aload_n hx hb d_T_copyFrom_17 rfl (lv_at hl 1 rfl) ?_
  refine f_get S cls_T hK hP 6 rfl 2 (by decide) fl_T_mark rfl rfl d_T_copyFrom_18 ?_
  refine f_put S cls_T hK hP hD hS 0 rfl 2 (by decide) fl_T_mark rfl rfl rfl rfl (Nat.le_of_ble_eq_true rfl) d_T_copyFrom_21 (fun H locs hP hD hS => ?_)
  have hP : va_P D classes ([(t 0, .inr (1, [.int (g2 0), .int (g2 1), .int (g2 2), .int (g 3), .int (g 4), .int (g 5), .int (g 6), .int (g 7), .ref (t 1), .ref (t 2), .ref (t 3), .ref (t 4), .ref (t 5)])), (t 1, .inl (ca 0, 2, .inl (tb g))), (t 2, .inl (ca 0, 40, .inl (td 0 g))), (t 3, .inl (ca 0, 40, .inl (td 1 g))), (t 4, .inl (ca 0, 40, .inl (td 2 g))), (t 5, .inl (ca 0, 40, .inl (td 3 g)))] ++ tw ca t2 g2) H := hP
  have hD : va_D A ([(t 0, .inr (1, [.int (g2 0), .int (g2 1), .int (g2 2), .int (g 3), .int (g 4), .int (g 5), .int (g 6), .int (g 7), .ref (t 1), .ref (t 2), .ref (t 3), .ref (t 4), .ref (t 5)])), (t 1, .inl (ca 0, 2, .inl (tb g))), (t 2, .inl (ca 0, 40, .inl (td 0 g))), (t 3, .inl (ca 0, 40, .inl (td 1 g))), (t 4, .inl (ca 0, 40, .inl (td 2 g))), (t 5, .inl (ca 0, 40, .inl (td 3 g)))] ++ tw ca t2 g2) := hD
  refine lv_aload_n hx hb d_T_copyFrom_24 rfl (lv_at hl 0 rfl) ?_
  refine lv_aload_n hx hb d_T_copyFrom_25 rfl (lv_at hl 1 rfl) ?_
  refine f_get S cls_T hK hP 6 rfl 3 (by decide) fl_T_head rfl rfl d_T_copyFrom_26 ?_
  refine f_put S cls_T hK hP hD hS 0 rfl 3 (by decide) fl_T_head rfl rfl rfl rfl (Nat.le_of_ble_eq_true rfl) d_T_copyFrom_29 (fun H locs hP hD hS => ?_)
  have hP : va_P D classes ([(t 0, .inr (1, [.int (g2 0), .int (g2 1), .int (g2 2), .int (g2 3), .int (g 4), .int (g 5), .int (g 6), .int (g 7), .ref (t 1), .ref (t 2), .ref (t 3), .ref (t 4), .ref (t 5)])), (t 1, .inl (ca 0, 2, .inl (tb g))), (t 2, .inl (ca 0, 40, .inl (td 0 g))), (t 3, .inl (ca 0, 40, .inl (td 1 g))), (t 4, .inl (ca 0, 40, .inl (td 2 g))), (t 5, .inl (ca 0, 40, .inl (td 3 g)))] ++ tw ca t2 g2) H := hP
  have hD : va_D A ([(t 0, .inr (1, [.int (g2 0), .int (g2 1), .int (g2 2), .int (g2 3), .int (g 4), .int (g 5), .int (g 6), .int (g 7), .ref (t 1), .ref (t 2), .ref (t 3), .ref (t 4), .ref (t 5)])), (t 1, .inl (ca 0, 2, .inl (tb g))), (t 2, .inl (ca 0, 40, .inl (td 0 g))), (t 3, .inl (ca 0, 40, .inl (td 1 g))), (t 4, .inl (ca 0, 40, .inl (td 2 g))), (t 5, .inl (ca 0, 40, .inl (td 3 g)))] ++ tw ca t2 g2) := hD
  refine lv_aload_n hx hb d_T_copyFrom_32 rfl (lv_at hl 0 rfl) ?_
  refine lv_aload_n hx hb d_T_copyFrom_33 rfl (lv_at hl 1 rfl) ?_
  refine f_get S cls_T hK hP 6 rfl 4 (by decide) fl_T_splices rfl rfl d_T_copyFrom_34 ?_
  refine f_put S cls_T hK hP hD hS 0 rfl 4 (by decide) fl_T_splices rfl rfl rfl rfl (Nat.le_of_ble_eq_true rfl) d_T_copyFrom_37 (fun H locs hP hD hS => ?_)
  have hP : va_P D classes ([(t 0, .inr (1, [.int (g2 0), .int (g2 1), .int (g2 2), .int (g2 3), .int (g2 4), .int (g 5), .int (g 6), .int (g 7), .ref (t 1), .ref (t 2), .ref (t 3), .ref (t 4), .ref (t 5)])), (t 1, .inl (ca 0, 2, .inl (tb g))), (t 2, .inl (ca 0, 40, .inl (td 0 g))), (t 3, .inl (ca 0, 40, .inl (td 1 g))), (t 4, .inl (ca 0, 40, .inl (td 2 g))), (t 5, .inl (ca 0, 40, .inl (td 3 g)))] ++ tw ca t2 g2) H := hP
  have hD : va_D A ([(t 0, .inr (1, [.int (g2 0), .int (g2 1), .int (g2 2), .int (g2 3), .int (g2 4), .int (g 5), .int (g 6), .int (g 7), .ref (t 1), .ref (t 2), .ref (t 3), .ref (t 4), .ref (t 5)])), (t 1, .inl (ca 0, 2, .inl (tb g))), (t 2, .inl (ca 0, 40, .inl (td 0 g))), (t 3, .inl (ca 0, 40, .inl (td 1 g))), (t 4, .inl (ca 0, 40, .inl (td 2 g))), (t 5, .inl (ca 0, 40, .inl (td 3 g)))] ++ tw ca t2 g2) := hD
  refine lv_aload_n hx hb d_T_copyFrom_40 rfl (lv_at hl 0 rfl) ?_
  refine lv_aload_n hx hb d_T_copyFrom_41 rfl (lv_at hl 1 rfl) ?_
  refine f_get S cls_T hK hP 6 rfl 5 (by decide) fl_T_feetTakenOut rfl rfl d_T_copyFrom_42 ?_
  refine f_put S cls_T hK hP hD hS 0 rfl 5 (by decide) fl_T_feetTakenOut rfl rfl rfl rfl (Nat.le_of_ble_eq_true rfl) d_T_copyFrom_45 (fun H locs hP hD hS => ?_)
  have hP : va_P D classes ([(t 0, .inr (1, [.int (g2 0), .int (g2 1), .int (g2 2), .int (g2 3), .int (g2 4), .int (g2 5), .int (g 6), .int (g 7), .ref (t 1), .ref (t 2), .ref (t 3), .ref (t 4), .ref (t 5)])), (t 1, .inl (ca 0, 2, .inl (tb g))), (t 2, .inl (ca 0, 40, .inl (td 0 g))), (t 3, .inl (ca 0, 40, .inl (td 1 g))), (t 4, .inl (ca 0, 40, .inl (td 2 g))), (t 5, .inl (ca 0, 40, .inl (td 3 g)))] ++ tw ca t2 g2) H := hP
  have hD : va_D A ([(t 0, .inr (1, [.int (g2 0), .int (g2 1), .int (g2 2), .int (g2 3), .int (g2 4), .int (g2 5), .int (g 6), .int (g 7), .ref (t 1), .ref (t 2), .ref (t 3), .ref (t 4), .ref (t 5)])), (t 1, .inl (ca 0, 2, .inl (tb g))), (t 2, .inl (ca 0, 40, .inl (td 0 g))), (t 3, .inl (ca 0, 40, .inl (td 1 g))), (t 4, .inl (ca 0, 40, .inl (td 2 g))), (t 5, .inl (ca 0, 40, .inl (td 3 g)))] ++ tw ca t2 g2) := hD
  refine lv_aload_n hx hb d_T_copyFrom_48 rfl (lv_at hl 0 rfl) ?_
  refine lv_aload_n hx hb d_T_copyFrom_49 rfl (lv_at hl 1 rfl) ?_
  refine f_get S cls_T hK hP 6 rfl 6 (by decide) fl_T_travel rfl rfl d_T_copyFrom_50 ?_
  refine f_put S cls_T hK hP hD hS 0 rfl 6 (by decide) fl_T_travel rfl rfl rfl rfl (Nat.le_of_ble_eq_true rfl) d_T_copyFrom_53 (fun H locs hP hD hS => ?_)
  have hP : va_P D classes ([(t 0, .inr (1, [.int (g2 0), .int (g2 1), .int (g2 2), .int (g2 3), .int (g2 4), .int (g2 5), .int (g2 6), .int (g 7), .ref (t 1), .ref (t 2), .ref (t 3), .ref (t 4), .ref (t 5)])), (t 1, .inl (ca 0, 2, .inl (tb g))), (t 2, .inl (ca 0, 40, .inl (td 0 g))), (t 3, .inl (ca 0, 40, .inl (td 1 g))), (t 4, .inl (ca 0, 40, .inl (td 2 g))), (t 5, .inl (ca 0, 40, .inl (td 3 g)))] ++ tw ca t2 g2) H := hP
  have hD : va_D A ([(t 0, .inr (1, [.int (g2 0), .int (g2 1), .int (g2 2), .int (g2 3), .int (g2 4), .int (g2 5), .int (g2 6), .int (g 7), .ref (t 1), .ref (t 2), .ref (t 3), .ref (t 4), .ref (t 5)])), (t 1, .inl (ca 0, 2, .inl (tb g))), (t 2, .inl (ca 0, 40, .inl (td 0 g))), (t 3, .inl (ca 0, 40, .inl (td 1 g))), (t 4, .inl (ca 0, 40, .inl (td 2 g))), (t 5, .inl (ca 0, 40, .inl (td 3 g)))] ++ tw ca t2 g2) := hD
  refine lv_aload_n hx hb d_T_copyFrom_56 rfl (lv_at hl 0 rfl) ?_
  refine lv_aload_n hx hb d_T_copyFrom_57 rfl (lv_at hl 1 rfl) ?_
  refine f_get S cls_T hK hP 6 rfl 7 (by decide) fl_T_blocksRead rfl rfl d_T_copyFrom_58 ?_
  refine f_put S cls_T hK hP hD hS 0 rfl 7 (by decide) fl_T_blocksRead rfl rfl rfl rfl (Nat.le_of_ble_eq_true rfl) d_T_copyFrom_61 (fun H locs hP hD hS => ?_)
  have hP : va_P D classes ([(t 0, .inr (1, [.int (g2 0), .int (g2 1), .int (g2 2), .int (g2 3), .int (g2 4), .int (g2 5), .int (g2 6), .int (g2 7), .ref (t 1), .ref (t 2), .ref (t 3), .ref (t 4), .ref (t 5)])), (t 1, .inl (ca 0, 2, .inl (tb g))), (t 2, .inl (ca 0, 40, .inl (td 0 g))), (t 3, .inl (ca 0, 40, .inl (td 1 g))), (t 4, .inl (ca 0, 40, .inl (td 2 g))), (t 5, .inl (ca 0, 40, .inl (td 3 g)))] ++ tw ca t2 g2) H := hP
  have hD : va_D A ([(t 0, .inr (1, [.int (g2 0), .int (g2 1), .int (g2 2), .int (g2 3), .int (g2 4), .int (g2 5), .int (g2 6), .int (g2 7), .ref (t 1), .ref (t 2), .ref (t 3), .ref (t 4), .ref (t 5)])), (t 1, .inl (ca 0, 2, .inl (tb g))), (t 2, .inl (ca 0, 40, .inl (td 0 g))), (t 3, .inl (ca 0, 40, .inl (td 1 g))), (t 4, .inl (ca 0, 40, .inl (td 2 g))), (t 5, .inl (ca 0, 40, .inl (td 3 g)))] ++ tw ca t2 g2) := hD
  refine lv_aload_n hx hb d_T_copyFrom_64 rfl (lv_at hl 1 rfl) ?_
  refine f_get S cls_T hK hP 6 rfl 8 (by decide) fl_T_blocks rfl rfl d_T_copyFrom_65 ?_
  refine lv_iconst (v := 0) hx hb d_T_copyFrom_68 (by decide) ?_
  refine lv_aload_n hx hb d_T_copyFrom_69 rfl (lv_at hl 0 rfl) ?_
  refine f_get S cls_T hK hP 0 rfl 8 (by decide) fl_T_blocks rfl rfl d_T_copyFrom_70 ?_
  refine lv_iconst (v := 0) hx hb d_T_copyFrom_73 (by decide) ?_
  refine lv_iconst (v := 2) hx hb d_T_copyFrom_74 (by decide) ?_
  refine va_copyi (D := D) (f := tb g2) (g := tb g) hx hb (hml.trans hl.1.symm) hown (hts _ kx_T_52) (hts _ xn_System_arraycopy) (hts _ xs_System_arraycopy) (hts _ in_java_lang_System) hK hP hD hS 7 1 0 0 rfl rfl rfl rfl rfl (by decide) (by decide) (by decide) (by decide) (by decide) (fun _ _ => rfl) (Nat.le_of_ble_eq_true rfl) (Nat.le_of_ble_eq_true rfl) d_T_copyFrom_75 (fun H locs hP hD hS => ?_)
  rw [show va_cpy (tb g2) (tb g) (0 : Int32).toNatClampNeg (0 : Int32).toNatClampNeg (2 : Int32).toNatClampNeg = tb g2 from cpy_tb] at hP hD
  have hP : va_P D classes ([(t 0, .inr (1, [.int (g2 0), .int (g2 1), .int (g2 2), .int (g2 3), .int (g2 4), .int (g2 5), .int (g2 6), .int (g2 7), .ref (t 1), .ref (t 2), .ref (t 3), .ref (t 4), .ref (t 5)])), (t 1, .inl (ca 0, 2, .inl (tb g2))), (t 2, .inl (ca 0, 40, .inl (td 0 g))), (t 3, .inl (ca 0, 40, .inl (td 1 g))), (t 4, .inl (ca 0, 40, .inl (td 2 g))), (t 5, .inl (ca 0, 40, .inl (td 3 g)))] ++ tw ca t2 g2) H := hP
  have hD : va_D A ([(t 0, .inr (1, [.int (g2 0), .int (g2 1), .int (g2 2), .int (g2 3), .int (g2 4), .int (g2 5), .int (g2 6), .int (g2 7), .ref (t 1), .ref (t 2), .ref (t 3), .ref (t 4), .ref (t 5)])), (t 1, .inl (ca 0, 2, .inl (tb g2))), (t 2, .inl (ca 0, 40, .inl (td 0 g))), (t 3, .inl (ca 0, 40, .inl (td 1 g))), (t 4, .inl (ca 0, 40, .inl (td 2 g))), (t 5, .inl (ca 0, 40, .inl (td 3 g)))] ++ tw ca t2 g2) := hD
  refine lv_aload_n hx hb d_T_copyFrom_78 rfl (lv_at hl 1 rfl) ?_
  refine f_get S cls_T hK hP 6 rfl 9 (by decide) fl_T_data rfl rfl d_T_copyFrom_79 ?_
  refine lv_iconst (v := 0) hx hb d_T_copyFrom_82 (by decide) ?_
  refine lv_aload_n hx hb d_T_copyFrom_83 rfl (lv_at hl 0 rfl) ?_
  refine f_get S cls_T hK hP 0 rfl 9 (by decide) fl_T_data rfl rfl d_T_copyFrom_84 ?_
  refine lv_iconst (v := 0) hx hb d_T_copyFrom_87 (by decide) ?_
  refine lv_bipush (v := 40) hx hb d_T_copyFrom_88 (by decide) ?_
  refine va_copyi (D := D) (f := td 0 g2) (g := td 0 g) hx hb (hml.trans hl.1.symm) hown (hts _ kx_T_52) (hts _ xn_System_arraycopy) (hts _ xs_System_arraycopy) (hts _ in_java_lang_System) hK hP hD hS 8 2 0 0 rfl rfl rfl rfl rfl (by decide) (by decide) (by decide) (by decide) (by decide) (fun _ _ => rfl) (Nat.le_of_ble_eq_true rfl) (Nat.le_of_ble_eq_true rfl) d_T_copyFrom_90 (fun H locs hP hD hS => ?_)
  rw [show va_cpy (td 0 g2) (td 0 g) (0 : Int32).toNatClampNeg (0 : Int32).toNatClampNeg (40 : Int32).toNatClampNeg = td 0 g2 from cpy_td] at hP hD
  have hP : va_P D classes ([(t 0, .inr (1, [.int (g2 0), .int (g2 1), .int (g2 2), .int (g2 3), .int (g2 4), .int (g2 5), .int (g2 6), .int (g2 7), .ref (t 1), .ref (t 2), .ref (t 3), .ref (t 4), .ref (t 5)])), (t 1, .inl (ca 0, 2, .inl (tb g2))), (t 2, .inl (ca 0, 40, .inl (td 0 g2))), (t 3, .inl (ca 0, 40, .inl (td 1 g))), (t 4, .inl (ca 0, 40, .inl (td 2 g))), (t 5, .inl (ca 0, 40, .inl (td 3 g)))] ++ tw ca t2 g2) H := hP
  have hD : va_D A ([(t 0, .inr (1, [.int (g2 0), .int (g2 1), .int (g2 2), .int (g2 3), .int (g2 4), .int (g2 5), .int (g2 6), .int (g2 7), .ref (t 1), .ref (t 2), .ref (t 3), .ref (t 4), .ref (t 5)])), (t 1, .inl (ca 0, 2, .inl (tb g2))), (t 2, .inl (ca 0, 40, .inl (td 0 g2))), (t 3, .inl (ca 0, 40, .inl (td 1 g))), (t 4, .inl (ca 0, 40, .inl (td 2 g))), (t 5, .inl (ca 0, 40, .inl (td 3 g)))] ++ tw ca t2 g2) := hD
  refine lv_aload_n hx hb d_T_copyFrom_93 rfl (lv_at hl 1 rfl) ?_
  refine f_get S cls_T hK hP 6 rfl 10 (by decide) fl_T_sums rfl rfl d_T_copyFrom_94 ?_
  refine lv_iconst (v := 0) hx hb d_T_copyFrom_97 (by decide) ?_
  refine lv_aload_n hx hb d_T_copyFrom_98 rfl (lv_at hl 0 rfl) ?_
  refine f_get S cls_T hK hP 0 rfl 10 (by decide) fl_T_sums rfl rfl d_T_copyFrom_99 ?_
  refine lv_iconst (v := 0) hx hb d_T_copyFrom_102 (by decide) ?_
  refine lv_bipush (v := 40) hx hb d_T_copyFrom_103 (by decide) ?_
  refine va_copyi (D := D) (f := td 1 g2) (g := td 1 g) hx hb (hml.trans hl.1.symm) hown (hts _ kx_T_52) (hts _ xn_System_arraycopy) (hts _ xs_System_arraycopy) (hts _ in_java_lang_System) hK hP hD hS 9 3 0 0 rfl rfl rfl rfl rfl (by decide) (by decide) (by decide) (by decide) (by decide) (fun _ _ => rfl) (Nat.le_of_ble_eq_true rfl) (Nat.le_of_ble_eq_true rfl) d_T_copyFrom_105 (fun H locs hP hD hS => ?_)
  rw [show va_cpy (td 1 g2) (td 1 g) (0 : Int32).toNatClampNeg (0 : Int32).toNatClampNeg (40 : Int32).toNatClampNeg = td 1 g2 from cpy_td] at hP hD
  have hP : va_P D classes ([(t 0, .inr (1, [.int (g2 0), .int (g2 1), .int (g2 2), .int (g2 3), .int (g2 4), .int (g2 5), .int (g2 6), .int (g2 7), .ref (t 1), .ref (t 2), .ref (t 3), .ref (t 4), .ref (t 5)])), (t 1, .inl (ca 0, 2, .inl (tb g2))), (t 2, .inl (ca 0, 40, .inl (td 0 g2))), (t 3, .inl (ca 0, 40, .inl (td 1 g2))), (t 4, .inl (ca 0, 40, .inl (td 2 g))), (t 5, .inl (ca 0, 40, .inl (td 3 g)))] ++ tw ca t2 g2) H := hP
  have hD : va_D A ([(t 0, .inr (1, [.int (g2 0), .int (g2 1), .int (g2 2), .int (g2 3), .int (g2 4), .int (g2 5), .int (g2 6), .int (g2 7), .ref (t 1), .ref (t 2), .ref (t 3), .ref (t 4), .ref (t 5)])), (t 1, .inl (ca 0, 2, .inl (tb g2))), (t 2, .inl (ca 0, 40, .inl (td 0 g2))), (t 3, .inl (ca 0, 40, .inl (td 1 g2))), (t 4, .inl (ca 0, 40, .inl (td 2 g))), (t 5, .inl (ca 0, 40, .inl (td 3 g)))] ++ tw ca t2 g2) := hD
  refine lv_aload_n hx hb d_T_copyFrom_108 rfl (lv_at hl 1 rfl) ?_
  refine f_get S cls_T hK hP 6 rfl 11 (by decide) fl_T_marks rfl rfl d_T_copyFrom_109 ?_
  refine lv_iconst (v := 0) hx hb d_T_copyFrom_112 (by decide) ?_
  refine lv_aload_n hx hb d_T_copyFrom_113 rfl (lv_at hl 0 rfl) ?_
  refine f_get S cls_T hK hP 0 rfl 11 (by decide) fl_T_marks rfl rfl d_T_copyFrom_114 ?_
  refine lv_iconst (v := 0) hx hb d_T_copyFrom_117 (by decide) ?_
  refine lv_bipush (v := 40) hx hb d_T_copyFrom_118 (by decide) ?_
  refine va_copyi (D := D) (f := td 2 g2) (g := td 2 g) hx hb (hml.trans hl.1.symm) hown (hts _ kx_T_52) (hts _ xn_System_arraycopy) (hts _ xs_System_arraycopy) (hts _ in_java_lang_System) hK hP hD hS 10 4 0 0 rfl rfl rfl rfl rfl (by decide) (by decide) (by decide) (by decide) (by decide) (fun _ _ => rfl) (Nat.le_of_ble_eq_true rfl) (Nat.le_of_ble_eq_true rfl) d_T_copyFrom_120 (fun H locs hP hD hS => ?_)
  rw [show va_cpy (td 2 g2) (td 2 g) (0 : Int32).toNatClampNeg (0 : Int32).toNatClampNeg (40 : Int32).toNatClampNeg = td 2 g2 from cpy_td] at hP hD
  have hP : va_P D classes ([(t 0, .inr (1, [.int (g2 0), .int (g2 1), .int (g2 2), .int (g2 3), .int (g2 4), .int (g2 5), .int (g2 6), .int (g2 7), .ref (t 1), .ref (t 2), .ref (t 3), .ref (t 4), .ref (t 5)])), (t 1, .inl (ca 0, 2, .inl (tb g2))), (t 2, .inl (ca 0, 40, .inl (td 0 g2))), (t 3, .inl (ca 0, 40, .inl (td 1 g2))), (t 4, .inl (ca 0, 40, .inl (td 2 g2))), (t 5, .inl (ca 0, 40, .inl (td 3 g)))] ++ tw ca t2 g2) H := hP
  have hD : va_D A ([(t 0, .inr (1, [.int (g2 0), .int (g2 1), .int (g2 2), .int (g2 3), .int (g2 4), .int (g2 5), .int (g2 6), .int (g2 7), .ref (t 1), .ref (t 2), .ref (t 3), .ref (t 4), .ref (t 5)])), (t 1, .inl (ca 0, 2, .inl (tb g2))), (t 2, .inl (ca 0, 40, .inl (td 0 g2))), (t 3, .inl (ca 0, 40, .inl (td 1 g2))), (t 4, .inl (ca 0, 40, .inl (td 2 g2))), (t 5, .inl (ca 0, 40, .inl (td 3 g)))] ++ tw ca t2 g2) := hD
  refine lv_aload_n hx hb d_T_copyFrom_123 rfl (lv_at hl 1 rfl) ?_
  refine f_get S cls_T hK hP 6 rfl 12 (by decide) fl_T_timesRead rfl rfl d_T_copyFrom_124 ?_
  refine lv_iconst (v := 0) hx hb d_T_copyFrom_127 (by decide) ?_
  refine lv_aload_n hx hb d_T_copyFrom_128 rfl (lv_at hl 0 rfl) ?_
  refine f_get S cls_T hK hP 0 rfl 12 (by decide) fl_T_timesRead rfl rfl d_T_copyFrom_129 ?_
  refine lv_iconst (v := 0) hx hb d_T_copyFrom_132 (by decide) ?_
  refine lv_bipush (v := 40) hx hb d_T_copyFrom_133 (by decide) ?_
  refine va_copyi (D := D) (f := td 3 g2) (g := td 3 g) hx hb (hml.trans hl.1.symm) hown (hts _ kx_T_52) (hts _ xn_System_arraycopy) (hts _ xs_System_arraycopy) (hts _ in_java_lang_System) hK hP hD hS 11 5 0 0 rfl rfl rfl rfl rfl (by decide) (by decide) (by decide) (by decide) (by decide) (fun _ _ => rfl) (Nat.le_of_ble_eq_true rfl) (Nat.le_of_ble_eq_true rfl) d_T_copyFrom_135 (fun H locs hP hD hS => ?_)
  rw [show va_cpy (td 3 g2) (td 3 g) (0 : Int32).toNatClampNeg (0 : Int32).toNatClampNeg (40 : Int32).toNatClampNeg = td 3 g2 from cpy_td] at hP hD
  have hP : va_P D classes ([(t 0, .inr (1, [.int (g2 0), .int (g2 1), .int (g2 2), .int (g2 3), .int (g2 4), .int (g2 5), .int (g2 6), .int (g2 7), .ref (t 1), .ref (t 2), .ref (t 3), .ref (t 4), .ref (t 5)])), (t 1, .inl (ca 0, 2, .inl (tb g2))), (t 2, .inl (ca 0, 40, .inl (td 0 g2))), (t 3, .inl (ca 0, 40, .inl (td 1 g2))), (t 4, .inl (ca 0, 40, .inl (td 2 g2))), (t 5, .inl (ca 0, 40, .inl (td 3 g2)))] ++ tw ca t2 g2) H := hP
  have hD : va_D A ([(t 0, .inr (1, [.int (g2 0), .int (g2 1), .int (g2 2), .int (g2 3), .int (g2 4), .int (g2 5), .int (g2 6), .int (g2 7), .ref (t 1), .ref (t 2), .ref (t 3), .ref (t 4), .ref (t 5)])), (t 1, .inl (ca 0, 2, .inl (tb g2))), (t 2, .inl (ca 0, 40, .inl (td 0 g2))), (t 3, .inl (ca 0, 40, .inl (td 1 g2))), (t 4, .inl (ca 0, 40, .inl (td 2 g2))), (t 5, .inl (ca 0, 40, .inl (td 3 g2)))] ++ tw ca t2 g2) := hD
  exact hret _ _ _ _ _ d_T_copyFrom_138 rfl hP hD hS
end
section
/-! What the model's methods answer -/
def inr (v a b : Int32) : Int32 := if v < a then 0 else if b < v then 0 else 1
def ap (a b : Int32) : Int32 := if a ≤ b then b - a else a - b
def tvm (g : Nat → Int32) (x : Int32) : Nat → Int32 := upd (upd g 6 (rem9 (g 6 + ap (g 3) x))) 3 x
def eo (g : Nat → Int32) (f b w q : Nat) : Int32 := if (f + w) % 2 = 0 then (if (1 : Int32) = nI q then lo g f b else lo g f b + wl g (f * 20 + b)) else (if (0 : Int32) = nI q then lo g f b else lo g f b + wl g (f * 20 + b))
def m_tr (g : Nat → Int32) (f b w : Nat) : Int32 := ap (g 3) (sr g f b w) + wl g (f * 20 + b)
def m_wf (g : Nat → Int32) (x d u : Int32) : Int32 := if isf x = 0 then -1 else if inr d 1 99 = 0 then -2 else if inr u 0 9999 = 0 then -2 else if nI (bn g x.toNatClampNeg) = 20 then -4 else if g 1 ≤ gp g - d - 2 * g 2 then 0 else -5
def m_wr (g : Nat → Int32) (f b : Nat) (d u : Int32) : Nat → Int32 :=
  let g1 := tvm g (en g f)
  let g2 := upd g1 (10 + 4 * (f * 20 + b) + 0) d
  let g3 := upd g2 (10 + 4 * (f * 20 + b) + 1) u
  let g4 := upd g3 (10 + 4 * (f * 20 + b) + 2) (g3 2)
  let g5 := upd g4 (10 + 4 * (f * 20 + b) + 3) 0
  let g6 := upd g5 (8 + f) (nI (b + 1))
  tvm g6 (en g6 f)
def m_cf (g : Nat → Int32) (x y : Int32) : Int32 := if isf x = 0 then -1 else if 0 ≤ y then (if y ≤ nI (bn g x.toNatClampNeg) then 0 else -5) else -2
def m_rew (g : Nat → Int32) : Int32 × (Nat → Int32) := if g 0 - g 3 < g 3 then ((tvm g (g 0)) 3, tvm g (g 0)) else ((tvm g 0) 3, tvm g 0)
def m_rf (g : Nat → Int32) (x y z : Int32) : Int32 := if ibk g x y = 0 then -1 else if inr z 0 1 = 0 then -2 else 0
def m_rv (g : Nat → Int32) (f b w : Nat) : Int32 × (Nat → Int32) :=
  let g1 := tvm g (sr g f b w)
  let g2 := tvm g1 (sr g1 f b (1 - w))
  let g3 := upd g2 (10 + 4 * (f * 20 + b) + 3) (g2 (10 + 4 * (f * 20 + b) + 3) + 1)
  let g4 := upd g3 7 (g3 7 + 1)
  (rem10 (g4 (10 + 4 * (f * 20 + b) + 1) + nI b + nI w), g4)
def wlp (g : Nat → Int32) (x y : Int32) : Nat → Nat → Int32
  | 0, _ => -6
  | r + 1, k => if nI (bn g (k / 20)) ≤ nI (k % 20) then wlp g x y r (k + 1) else if x < fd g (k / 20) (k % 20) then wlp g x y r (k + 1) else if lo g (k / 20) (k % 20) + wl g (k / 20 * 20 + k % 20) - g (10 + 4 * (k / 20 * 20 + k % 20) + 2) ≤ y then wlp g x y r (k + 1) else nI k
def m_wi (g : Nat → Int32) (x y : Int32) : Int32 := if x < en g 0 then wlp g x y 40 0 else if en g 1 ≤ y then wlp g x y 40 0 else -1
def m_at (g : Nat → Int32) (x : Int32) : Int32 := if inr x 0 (g 0 - 1) = 0 then -2 else if m_wi g x x = -1 then 0 else if m_wi g x x < 0 then (if en g 0 ≤ x then 11 else 1) else 2 + 10 * (m_wi g x x / 20)
def m_fit (g : Nat → Int32) (x : Int32) : Int32 := if isf x = 0 then -1 else if gp g - g 1 - 2 * g 2 < 0 then 0 else if nI (bn g x.toNatClampNeg) = 20 then 0 else if gp g - g 1 - 2 * g 2 ≤ 99 then gp g - g 1 - 2 * g 2 else 99
def m_roo (g : Nat → Int32) (x : Int32) : Int32 := if inr x 1 99 = 0 then -2 else if 40 - nI (bn g 0) - nI (bn g 1) ≤ (gp g - g 1) / (x + 2 * g 2) then 40 - nI (bn g 0) - nI (bn g 1) else (gp g - g 1) / (x + 2 * g 2)
def mns (g : Nat → Int32) (k : Nat) (q : Int32 × Int32) : Int32 × Int32 := if nI (bn g (k / 40)) ≤ nI (k / 2 % 20) then q else if q.1 = -6 then (nI k, m_tr g (k / 40) (k / 2 % 20) (k % 2)) else if q.2 ≤ m_tr g (k / 40) (k / 2 % 20) (k % 2) then q else (nI k, m_tr g (k / 40) (k / 2 % 20) (k % 2))
def mnl (g : Nat → Int32) : Nat → Nat → Int32 × Int32 → Int32 × Int32
  | 0, _, q => q
  | r + 1, k, q => mnl g r (k + 1) (mns g k q)
def mnx (x : Int32) (q : Int32 × Int32) : Int32 := if q.1 = -6 then -6 else if x = 0 then q.1 / 40 else if x = 1 then q.1 / 2 - q.1 / 2 / 20 * 20 else if x = 2 then q.1 - q.1 / 2 * 2 else q.2
def m_nea (g : Nat → Int32) (x : Int32) : Int32 := if inr x 0 3 = 0 then -2 else mnx x (mnl g 80 0 (-6, 0))
def m_abv (g : Nat → Int32) (f b : Nat) (z : Int32) : Int32 := if z = 0 then g (10 + 4 * (f * 20 + b) + 0) else if z = 1 then g (10 + 4 * (f * 20 + b) + 1) else if z = 2 then wl g (f * 20 + b) else if z = 3 then lo g f b else if z = 4 then lo g f b + wl g (f * 20 + b) else if z = 5 then g (10 + 4 * (f * 20 + b) + 3) else if z = 6 then m_tr g f b 0 else if z = 7 then m_tr g f b 1 else -2
def m_abl (g : Nat → Int32) (x y z : Int32) : Int32 := if ibk g x y = 0 then -1 else m_abv g x.toNatClampNeg y.toNatClampNeg z
theorem inr_f (x : Int32) : inr x 0 1 = isf x := by
  unfold inr isf
  by_cases h : x < 0
  · rw [if_pos h, if_pos h]
  · rw [if_neg h, if_neg h]
    obtain ⟨j, hj, rfl⟩ := nI_of h
    have e : (1 < nI j) ↔ ((2 : Int32) ≤ nI j) := ((nI_ltI (a := 1) (by decide) hj).trans (Nat.lt_iff_add_one_le)).trans (nI_leI (a := 2) (by decide) hj).symm
    simp only [e]
theorem inr_b {y : Int32} {n : Nat} (hn : n ≤ 20) : inr y 0 (nI n - 1) = if y < 0 then 0 else if nI n ≤ y then 0 else 1 := by
  unfold inr
  by_cases h : y < 0
  · rw [if_pos h, if_pos h]
  · rw [if_neg h, if_neg h]
    obtain ⟨j, hj, rfl⟩ := nI_of h
    rcases Nat.eq_zero_or_pos n with rfl | h0
    · rw [if_pos (show nI 0 - 1 < nI j by
        rw [Int32.lt_iff_toInt_lt, nI_toInt hj]
        have : (nI 0 - 1).toInt = -1 := by decide
        omega), if_pos (nI_le (by omega) hj)]
    · have e : nI n - 1 = nI (n - 1) := by
        have := nI_pred (n - 1)
        rw [show n - 1 + 1 = n by omega] at this
        exact this
      rw [e]
      have e2 : (nI (n - 1) < nI j) ↔ (nI n ≤ nI j) := by rw [nI_ltI (by omega) hj, nI_leI (by omega) hj]; omega
      simp only [e2]
theorem eo_1 {g : Nat → Int32} {f b w : Nat} (hf : f < 2) (hw : w < 2) : eo g f b w 1 = sr g f b w := by
  unfold eo sr
  rcases (show f = 0 ∨ f = 1 by omega) with rfl | rfl <;> rcases (show w = 0 ∨ w = 1 by omega) with rfl | rfl <;> rfl
theorem eo_0 {g : Nat → Int32} {f b w : Nat} (hf : f < 2) (hw : w < 2) : eo g f b w 0 = sr g f b (1 - w) := by
  unfold eo sr
  rcases (show f = 0 ∨ f = 1 by omega) with rfl | rfl <;> rcases (show w = 0 ∨ w = 1 by omega) with rfl | rfl <;> rfl
theorem gp_en (g : Nat → Int32) : en g 1 - en g 0 = gp g := by
  unfold en gp
  rw [if_neg (by decide), if_pos rfl]
  generalize ft g 0 (bn g 0) = a
  generalize ft g 1 (bn g 1) = b
  grind
theorem bn_tvm {g : Nat → Int32} {f : Nat} {x : Int32} (hf : f < 2) : bn (tvm g x) f = bn g f := by unfold tvm; rw [bn_up hf (by omega), bn_up hf (by omega)]
theorem BN_tvm {g : Nat → Int32} {x : Int32} (h : BN g) : BN (tvm g x) := BN_up (by omega) (BN_up (by omega) h)
theorem nar_isf (x : Int32) : narrow .boolean (.int (isf x)) = .int (isf x) := by
  unfold isf
  split
  · rfl
  · split <;> rfl
set_option maxHeartbeats 4000000 in
set_option maxRecDepth 100000 in
theorem c_M_in (l : Launch) (D : va_G) (ca : Nat → ClassId) (v a b : Int32) : RO l y_M_in b_M_in 3 (some .boolean) 0 0 D ca [.int v, .int a, .int b] [] (inr v a b) := by
  refine RO.mk (ty := .boolean) rfl rfl (Nat.le_of_ble_eq_true rfl) ?_
  intro p e s m args below meth c Q S hP hK
  obtain ⟨hx, hb, hml, hown, hts⟩ := id S
  intro hret ls hl0
  have hl : lv_has ls 3 [(0, .int v), (1, .int a), (2, .int b)] := hl0
  refine lv_iload_n hx hb d_M_in_0 rfl (lv_at hl 0 rfl) ?_
  refine lv_iload_n hx hb d_M_in_1 rfl (lv_at hl 1 rfl) ?_
  refine lv_icmp_lt (tgt := 14) hx hb d_M_in_2 (by decide) (fun c_2 => ?_) (fun c_2 => ?_)
  · refine lv_iconst (v := 0) hx hb d_M_in_14 (by decide) ?_
    exact hret _ _ _ d_M_in_15 rfl (by first | (simp only [inr, c_2, ↓reduceIte]; done) | (simp only [inr, c_2, ↓reduceIte]; rfl) | rfl)
  · refine lv_iload_n hx hb d_M_in_5 rfl (lv_at hl 0 rfl) ?_
    refine lv_iload_n hx hb d_M_in_6 rfl (lv_at hl 2 rfl) ?_
    refine lv_icmp_gt (tgt := 14) hx hb d_M_in_7 (by decide) (fun c_7 => ?_) (fun c_7 => ?_)
    · refine lv_iconst (v := 0) hx hb d_M_in_14 (by decide) ?_
      exact hret _ _ _ d_M_in_15 rfl (by first | (simp only [inr, c_2, c_7, ↓reduceIte]; done) | (simp only [inr, c_2, c_7, ↓reduceIte]; rfl) | rfl)
    · refine lv_iconst (v := 1) hx hb d_M_in_10 (by decide) ?_
      refine lv_goto (tgt := 15) hx hb d_M_in_11 (by decide) ?_
      exact hret _ _ _ d_M_in_15 rfl (by first | (simp only [inr, c_2, c_7, ↓reduceIte]; done) | (simp only [inr, c_2, c_7, ↓reduceIte]; rfl) | rfl)
set_option maxHeartbeats 4000000 in
set_option maxRecDepth 100000 in
theorem c_M_isFile (l : Launch) (D : va_G) (ca : Nat → ClassId) (x : Int32) : RO l y_M_isFile b_M_isFile 1 (some .boolean) 1 22 D ca [.int x] [] (isf x) := by
  refine RO.mk (ty := .boolean) rfl rfl (Nat.le_of_ble_eq_true rfl) ?_
  intro p e s m args below meth c Q S hP hK
  obtain ⟨hx, hb, hml, hown, hts⟩ := id S
  intro hret ls hl0
  have hl : lv_has ls 1 [(0, .int x)] := hl0
  refine lv_iload_n hx hb d_M_isFile_0 rfl (lv_at hl 0 rfl) ?_
  refine lv_iconst (v := 0) hx hb d_M_isFile_1 (by decide) ?_
  refine lv_iconst (v := 1) hx hb d_M_isFile_2 (by decide) ?_
  refine RO.callS S (c_M_in l D ca  x 0 1 ) k_M_26 hK rfl rfl hl.1 ⟨Nat.le_of_ble_eq_true rfl, Nat.le_of_ble_eq_true rfl⟩ ⟨Nat.zero_le _, Nat.zero_le _⟩ (Nat.le_of_ble_eq_true rfl) d_M_isFile_3 ?_
  refine lv_tope (z := isf x) (inr_f x) ?_
  exact hret _ _ _ d_M_isFile_6 (nar_isf x) (by first | (simp only [↓reduceIte]; done) | (simp only [↓reduceIte]; rfl) | rfl)
set_option maxHeartbeats 4000000 in
set_option maxRecDepth 100000 in
theorem c_M_of (l : Launch) (D : va_G) (ca : Nat → ClassId) (f b k : Nat) : RO l y_M_of b_M_of 3 (some .int) 0 0 D ca [.int (nI f), .int (nI b), .int (nI k)] [] (nI (10 + 4 * (f * 20 + b) + k)) := by
  refine RO.mk (ty := .int) rfl rfl (Nat.le_of_ble_eq_true rfl) ?_
  intro p e s m args below meth c Q S hP hK
  obtain ⟨hx, hb, hml, hown, hts⟩ := id S
  intro hret ls hl0
  have hl : lv_has ls 3 [(0, .int (nI f)), (1, .int (nI b)), (2, .int (nI k))] := hl0
  refine lv_bipush (v := 10) hx hb d_M_of_0 (by decide) ?_
  refine lv_bipush (v := 80) hx hb d_M_of_2 (by decide) ?_
  refine lv_iload_n hx hb d_M_of_4 rfl (lv_at hl 0 rfl) ?_
  refine lv_imul hx hb d_M_of_5 ?_
  refine lv_tope (z := nI (80 * f)) (pk_mul 80 f) ?_
  refine lv_iadd hx hb d_M_of_6 ?_
  refine lv_tope (z := nI (10 + (80 * f))) (nI_add 10 (80 * f)) ?_
  refine lv_iconst (v := 4) hx hb d_M_of_7 (by decide) ?_
  refine lv_iload_n hx hb d_M_of_8 rfl (lv_at hl 1 rfl) ?_
  refine lv_imul hx hb d_M_of_9 ?_
  refine lv_tope (z := nI (4 * b)) (pk_mul 4 b) ?_
  refine lv_iadd hx hb d_M_of_10 ?_
  refine lv_tope (z := nI ((10 + (80 * f)) + (4 * b))) (nI_add (10 + (80 * f)) (4 * b)) ?_
  refine lv_iload_n hx hb d_M_of_11 rfl (lv_at hl 2 rfl) ?_
  refine lv_iadd hx hb d_M_of_12 ?_
  refine lv_tope (z := nI (((10 + (80 * f)) + (4 * b)) + k)) (nI_add ((10 + (80 * f)) + (4 * b)) k) ?_
  exact hret _ _ _ d_M_of_13 rfl (congrArg nI (by omega))
set_option maxHeartbeats 4000000 in
set_option maxRecDepth 100000 in
theorem c_M_apart (l : Launch) (D : va_G) (ca : Nat → ClassId) (a b : Int32) : RO l y_M_apart b_M_apart 2 (some .int) 0 0 D ca [.int a, .int b] [] (ap a b) := by
  refine RO.mk (ty := .int) rfl rfl (Nat.le_of_ble_eq_true rfl) ?_
  intro p e s m args below meth c Q S hP hK
  obtain ⟨hx, hb, hml, hown, hts⟩ := id S
  intro hret ls hl0
  have hl : lv_has ls 2 [(0, .int a), (1, .int b)] := hl0
  refine lv_iload_n hx hb d_M_apart_0 rfl (lv_at hl 0 rfl) ?_
  refine lv_iload_n hx hb d_M_apart_1 rfl (lv_at hl 1 rfl) ?_
  refine lv_icmp_le (tgt := 11) hx hb d_M_apart_2 (by decide) (fun c_2 => ?_) (fun c_2 => ?_)
  · refine lv_iload_n hx hb d_M_apart_11 rfl (lv_at hl 1 rfl) ?_
    refine lv_iload_n hx hb d_M_apart_12 rfl (lv_at hl 0 rfl) ?_
    refine lv_isub hx hb d_M_apart_13 ?_
    exact hret _ _ _ d_M_apart_14 rfl (by first | (simp only [ap, c_2, ↓reduceIte]; done) | (simp only [ap, c_2, ↓reduceIte]; rfl) | rfl)
  · refine lv_iload_n hx hb d_M_apart_5 rfl (lv_at hl 0 rfl) ?_
    refine lv_iload_n hx hb d_M_apart_6 rfl (lv_at hl 1 rfl) ?_
    refine lv_isub hx hb d_M_apart_7 ?_
    refine lv_goto (tgt := 14) hx hb d_M_apart_8 (by decide) ?_
    exact hret _ _ _ d_M_apart_14 rfl (by first | (simp only [ap, c_2, ↓reduceIte]; done) | (simp only [ap, c_2, ↓reduceIte]; rfl) | rfl)
set_option maxHeartbeats 4000000 in
set_option maxRecDepth 100000 in
theorem c_M_isBlock (l : Launch) (D : va_G) (ca : Nat → ClassId) (o sa : Nat) (fs : List Value) (g : Nat → Int32) (x y : Int32) (hB : BN g): RO l y_M_isBlock b_M_isBlock 3 (some .boolean) 2 42 D ca [.ref o, .int x, .int y] (mw ca o sa fs g) (ibk g x y) := by
  refine RO.mk (ty := .boolean) rfl rfl (Nat.le_of_ble_eq_true rfl) ?_
  intro p e s m args below meth c Q S hP hK
  obtain ⟨hx, hb, hml, hown, hts⟩ := id S
  intro hret ls hl0
  have hl : lv_has ls 3 [(0, .ref o), (1, .int x), (2, .int y)] := hl0
  refine lv_iload_n hx hb d_M_isBlock_0 rfl (lv_at hl 1 rfl) ?_
  refine RO.callS S (c_M_isFile l D ca  x ) k_M_30 hK rfl rfl hl.1 ⟨Nat.le_of_ble_eq_true rfl, Nat.le_of_ble_eq_true rfl⟩ ⟨Nat.zero_le _, Nat.zero_le _⟩ (Nat.le_of_ble_eq_true rfl) d_M_isBlock_1 ?_
  refine lv_if_eq (tgt := 30) hx hb d_M_isBlock_4 (by decide) (fun c_4 => ?_) (fun c_4 => ?_)
  · refine lv_iconst (v := 0) hx hb d_M_isBlock_30 (by decide) ?_
    exact hret _ _ _ d_M_isBlock_31 rfl (by first | (simp only [ibk, c_4, ↓reduceIte]; done) | (simp only [ibk, c_4, ↓reduceIte]; rfl) | rfl)
  · obtain ⟨f, hf, rfl⟩ := isf_of c_4
    have hcl : (nI f).toNatClampNeg = f := nI_clamp (by omega)
    have hn20 := (hB f hf).2
    refine lv_iload_n hx hb d_M_isBlock_7 rfl (lv_at hl 2 rfl) ?_
    refine lv_iconst (v := 0) hx hb d_M_isBlock_8 (by decide) ?_
    refine lv_aload_n hx hb d_M_isBlock_9 rfl (lv_at hl 0 rfl) ?_
    refine f_get S cls_M hK hP 0 rfl 0 (by decide) fl_M_s rfl rfl d_M_isBlock_10 ?_
    refine lv_bipush (v := 8) hx hb d_M_isBlock_13 (by decide) ?_
    refine lv_iload_n hx hb d_M_isBlock_15 rfl (lv_at hl 1 rfl) ?_
    refine lv_iadd hx hb d_M_isBlock_16 ?_
    refine lv_tope (z := nI (8 + f)) (nI_add 8 f) ?_
    refine M_ld S hK hP (r := 8 + f) (by omega) rfl d_M_isBlock_17 ?_
    refine lv_tope (z := nI (bn g f)) ((hB f hf).1) ?_
    refine lv_iconst (v := 1) hx hb d_M_isBlock_18 (by decide) ?_
    refine lv_isub hx hb d_M_isBlock_19 ?_
    refine RO.callS S (c_M_in l D ca  y 0 ((nI (bn g f)) - 1) ) k_M_26 hK rfl rfl hl.1 ⟨Nat.le_of_ble_eq_true rfl, Nat.le_of_ble_eq_true rfl⟩ ⟨Nat.zero_le _, Nat.zero_le _⟩ (Nat.le_of_ble_eq_true rfl) d_M_isBlock_20 ?_
    obtain ⟨z, hz⟩ : ∃ z, z = inr y 0 (nI (bn g f) - 1) := ⟨_, rfl⟩
    have hz2 : z = if y < 0 then 0 else if nI (bn g f) ≤ y then 0 else 1 := by rw [hz]; exact inr_b hn20
    refine lv_tope (z := z) (hz.symm) ?_
    refine lv_if_eq (tgt := 30) hx hb d_M_isBlock_23 (by decide) (fun c_23 => ?_) (fun c_23 => ?_)
    · refine lv_iconst (v := 0) hx hb d_M_isBlock_30 (by decide) ?_
      exact hret _ _ _ d_M_isBlock_31 rfl (by simp only [ibk, c_4, hcl, ↓reduceIte, ← hz2]; first | exact c_23.symm | (rcases (show z = 0 ∨ z = 1 by rw [hz2]; split; exact Or.inl rfl; split; exact Or.inl rfl; exact Or.inr rfl) with q | q; exact absurd q c_23; exact q.symm))
    · refine lv_iconst (v := 1) hx hb d_M_isBlock_26 (by decide) ?_
      refine lv_goto (tgt := 31) hx hb d_M_isBlock_27 (by decide) ?_
      exact hret _ _ _ d_M_isBlock_31 rfl (by simp only [ibk, c_4, hcl, ↓reduceIte, ← hz2]; first | exact c_23.symm | (rcases (show z = 0 ∨ z = 1 by rw [hz2]; split; exact Or.inl rfl; split; exact Or.inl rfl; exact Or.inr rfl) with q | q; exact absurd q c_23; exact q.symm))
set_option maxHeartbeats 4000000 in
set_option maxRecDepth 100000 in
theorem c_M_whole (l : Launch) (D : va_G) (ca : Nat → ClassId) (o sa : Nat) (fs : List Value) (g : Nat → Int32) (f b : Nat) (hf : f < 2) (hb20 : b < 20): RO l y_M_whole b_M_whole 3 (some .int) 1 22 D ca [.ref o, .int (nI f), .int (nI b)] (mw ca o sa fs g) (wl g (f * 20 + b)) := by
  refine RO.mk (ty := .int) rfl rfl (Nat.le_of_ble_eq_true rfl) ?_
  intro p e s m args below meth c Q S hP hK
  obtain ⟨hx, hb, hml, hown, hts⟩ := id S
  intro hret ls hl0
  have hl : lv_has ls 3 [(0, .ref o), (1, .int (nI f)), (2, .int (nI b))] := hl0
  refine lv_aload_n hx hb d_M_whole_0 rfl (lv_at hl 0 rfl) ?_
  refine f_get S cls_M hK hP 0 rfl 0 (by decide) fl_M_s rfl rfl d_M_whole_1 ?_
  refine lv_iload_n hx hb d_M_whole_4 rfl (lv_at hl 1 rfl) ?_
  refine lv_iload_n hx hb d_M_whole_5 rfl (lv_at hl 2 rfl) ?_
  refine lv_iconst (v := 0) hx hb d_M_whole_6 (by decide) ?_
  refine RO.callS S (c_M_of l D ca  f b 0 ) k_M_38 hK rfl rfl hl.1 ⟨Nat.le_of_ble_eq_true rfl, Nat.le_of_ble_eq_true rfl⟩ ⟨Nat.zero_le _, Nat.zero_le _⟩ (Nat.le_of_ble_eq_true rfl) d_M_whole_7 ?_
  refine M_ld S hK hP (r := 10 + 4 * (f * 20 + b) + 0) (by omega) rfl d_M_whole_10 ?_
  refine lv_iconst (v := 2) hx hb d_M_whole_11 (by decide) ?_
  refine lv_aload_n hx hb d_M_whole_12 rfl (lv_at hl 0 rfl) ?_
  refine f_get S cls_M hK hP 0 rfl 0 (by decide) fl_M_s rfl rfl d_M_whole_13 ?_
  refine lv_iload_n hx hb d_M_whole_16 rfl (lv_at hl 1 rfl) ?_
  refine lv_iload_n hx hb d_M_whole_17 rfl (lv_at hl 2 rfl) ?_
  refine lv_iconst (v := 2) hx hb d_M_whole_18 (by decide) ?_
  refine RO.callS S (c_M_of l D ca  f b 2 ) k_M_38 hK rfl rfl hl.1 ⟨Nat.le_of_ble_eq_true rfl, Nat.le_of_ble_eq_true rfl⟩ ⟨Nat.zero_le _, Nat.zero_le _⟩ (Nat.le_of_ble_eq_true rfl) d_M_whole_19 ?_
  refine M_ld S hK hP (r := 10 + 4 * (f * 20 + b) + 2) (by omega) rfl d_M_whole_22 ?_
  refine lv_imul hx hb d_M_whole_23 ?_
  refine lv_iadd hx hb d_M_whole_24 ?_
  exact hret _ _ _ d_M_whole_25 rfl (by first | (simp only [wl, ↓reduceIte]; done) | (simp only [wl, ↓reduceIte]; rfl) | rfl)
set_option maxHeartbeats 4000000 in
set_option maxRecDepth 100000 in
theorem c_M_feet (l : Launch) (D : va_G) (ca : Nat → ClassId) (o sa : Nat) (fs : List Value) (g : Nat → Int32) (f n : Nat) (hf : f < 2) (hn : n ≤ 20): RO l y_M_feet b_M_feet 5 (some .int) 2 44 D ca [.ref o, .int (nI f), .int (nI n)] (mw ca o sa fs g) (ft g f n) := by
  refine RO.mk (ty := .int) rfl rfl (Nat.le_of_ble_eq_true rfl) ?_
  intro p e s m args below meth c Q S hP hK
  obtain ⟨hx, hb, hml, hown, hts⟩ := id S
  intro hret ls hl0
  have hl : lv_has ls 5 [(0, .ref o), (1, .int (nI f)), (2, .int (nI n))] := hl0
  refine lv_iconst (v := 0) hx hb d_M_feet_0 (by decide) ?_
  refine lv_istore_n (lv' := [(3, .int 0), (0, .ref o), (1, .int (nI f)), (2, .int (nI n))]) hx hb d_M_feet_1 rfl hl (by decide) rfl (fun ls hl => ?_)
  refine lv_iconst (v := 0) hx hb d_M_feet_2 (by decide) ?_
  refine lv_istore (lv' := [(4, .int 0), (3, .int 0), (0, .ref o), (1, .int (nI f)), (2, .int (nI n))]) hx hb d_M_feet_3 hl (by decide) rfl (fun ls hl => ?_)
  suffices lp : ∀ (k i : Nat), n - i < k → i ≤ n → ∀ ls : Array Slot, lv_has ls 5 [(3, .int (ft g f i)), (4, .int (nI i)), (0, .ref o), (1, .int (nI f)), (2, .int (nI n))] → W p l e (rm 2 44 0 0) s m args below meth c s.heap [] 0 0 Q (F0 m 5 ls []) from lp (n + 1) 0 (by omega) (by omega) _ (lv_sub hl [1, 0, 2, 3, 4] rfl)
  intro k
  induction k with
  | zero => intro i hi; omega
  | succ k ih =>
    intro i hi hin ls hl
    refine lv_iload hx hb d_M_feet_5 (lv_at hl 1 rfl) ?_
    refine lv_iload_n hx hb d_M_feet_7 rfl (lv_at hl 4 rfl) ?_
    refine lv_icmp_ge (tgt := 27) hx hb d_M_feet_8 (by decide) (fun c_8 => ?_) (fun c_8 => ?_)
    · have e_8 : n ≤ i := le_of_nI (by omega) (by omega) c_8
      obtain rfl : i = n := by omega
      refine lv_iload_n hx hb d_M_feet_27 rfl (lv_at hl 0 rfl) ?_
      exact hret _ _ _ d_M_feet_28 rfl (by first | (simp only [ft, c_8, ↓reduceIte]; done) | (simp only [ft, c_8, ↓reduceIte]; rfl) | rfl)
    · have e_8 : i < n := nle_lt (by omega) (by omega) c_8
      refine lv_iload_n hx hb d_M_feet_11 rfl (lv_at hl 0 rfl) ?_
      refine lv_aload_n hx hb d_M_feet_12 rfl (lv_at hl 2 rfl) ?_
      refine lv_iload_n hx hb d_M_feet_13 rfl (lv_at hl 3 rfl) ?_
      refine lv_iload hx hb d_M_feet_14 (lv_at hl 1 rfl) ?_
      refine M_ro S (c_M_whole l D ca o sa fs g f i (by omega) (by omega)) k_M_42 rfl hP hK rfl rfl hl.1 ⟨Nat.le_of_ble_eq_true rfl, Nat.le_of_ble_eq_true rfl⟩ ⟨Nat.zero_le _, Nat.zero_le _⟩ (Nat.le_of_ble_eq_true rfl) d_M_feet_16 ?_
      refine lv_iadd hx hb d_M_feet_19 ?_
      refine lv_istore_n (lv' := [(3, .int (ft g f (i + 1))), (4, .int (nI i)), (0, .ref o), (1, .int (nI f)), (2, .int (nI n))]) hx hb d_M_feet_20 rfl hl (by decide) rfl (fun ls hl => ?_)
      refine lv_iinc (v := nI (i + 1)) (lv' := [(4, .int (nI (i + 1))), (3, .int (ft g f (i + 1))), (0, .ref o), (1, .int (nI f)), (2, .int (nI n))]) hx hb d_M_feet_21 hl (k := 1) rfl (nI_1 i) (by decide) rfl (fun ls hl => ?_)
      refine lv_goto (tgt := 5) hx hb d_M_feet_24 (by decide) ?_
      exact ih (i + 1) (by omega) (by omega) _ (lv_sub hl [1, 0, 2, 3, 4] rfl)
set_option maxHeartbeats 4000000 in
set_option maxRecDepth 100000 in
theorem c_M_allFeet (l : Launch) (D : va_G) (ca : Nat → ClassId) (o sa : Nat) (fs : List Value) (g : Nat → Int32) (f : Nat) (hB : BN g) (hf : f < 2): RO l y_M_allFeet b_M_allFeet 2 (some .int) 3 68 D ca [.ref o, .int (nI f)] (mw ca o sa fs g) (ft g f (bn g f)) := by
  refine RO.mk (ty := .int) rfl rfl (Nat.le_of_ble_eq_true rfl) ?_
  intro p e s m args below meth c Q S hP hK
  obtain ⟨hx, hb, hml, hown, hts⟩ := id S
  intro hret ls hl0
  have hl : lv_has ls 2 [(0, .ref o), (1, .int (nI f))] := hl0
  refine lv_aload_n hx hb d_M_allFeet_0 rfl (lv_at hl 0 rfl) ?_
  refine lv_iload_n hx hb d_M_allFeet_1 rfl (lv_at hl 1 rfl) ?_
  refine lv_aload_n hx hb d_M_allFeet_2 rfl (lv_at hl 0 rfl) ?_
  refine f_get S cls_M hK hP 0 rfl 0 (by decide) fl_M_s rfl rfl d_M_allFeet_3 ?_
  refine lv_bipush (v := 8) hx hb d_M_allFeet_6 (by decide) ?_
  refine lv_iload_n hx hb d_M_allFeet_8 rfl (lv_at hl 1 rfl) ?_
  refine lv_iadd hx hb d_M_allFeet_9 ?_
  refine lv_tope (z := nI (8 + f)) (nI_add 8 f) ?_
  refine M_ld S hK hP (r := 8 + f) (by omega) rfl d_M_allFeet_10 ?_
  refine lv_tope (z := nI (bn g f)) ((hB f hf).1) ?_
  have hn := (hB f hf).2
  refine M_ro S (c_M_feet l D ca o sa fs g f (bn g f) (by omega) (by omega)) k_M_46 rfl hP hK rfl rfl hl.1 ⟨Nat.le_of_ble_eq_true rfl, Nat.le_of_ble_eq_true rfl⟩ ⟨Nat.zero_le _, Nat.zero_le _⟩ (Nat.le_of_ble_eq_true rfl) d_M_allFeet_11 ?_
  exact hret _ _ _ d_M_allFeet_14 rfl (by first | (simp only [↓reduceIte]; done) | (simp only [↓reduceIte]; rfl) | rfl)
set_option maxHeartbeats 4000000 in
set_option maxRecDepth 100000 in
theorem c_M_end (l : Launch) (D : va_G) (ca : Nat → ClassId) (o sa : Nat) (fs : List Value) (g : Nat → Int32) (f : Nat) (hB : BN g) (hf : f < 2): RO l y_M_end b_M_end 2 (some .int) 4 89 D ca [.ref o, .int (nI f)] (mw ca o sa fs g) (en g f) := by
  refine RO.mk (ty := .int) rfl rfl (Nat.le_of_ble_eq_true rfl) ?_
  intro p e s m args below meth c Q S hP hK
  obtain ⟨hx, hb, hml, hown, hts⟩ := id S
  intro hret ls hl0
  have hl : lv_has ls 2 [(0, .ref o), (1, .int (nI f))] := hl0
  refine lv_iload_n hx hb d_M_end_0 rfl (lv_at hl 1 rfl) ?_
  refine lv_if_ne (tgt := 12) hx hb d_M_end_1 (by decide) (fun c_1 => ?_) (fun c_1 => ?_)
  · obtain rfl : f = 1 := by have := n0I c_1; omega
    refine lv_aload_n hx hb d_M_end_12 rfl (lv_at hl 0 rfl) ?_
    refine f_get S cls_M hK hP 0 rfl 0 (by decide) fl_M_s rfl rfl d_M_end_13 ?_
    refine lv_iconst (v := 0) hx hb d_M_end_16 (by decide) ?_
    refine M_ld S hK hP (r := 0) (by omega) rfl d_M_end_17 ?_
    refine lv_aload_n hx hb d_M_end_18 rfl (lv_at hl 0 rfl) ?_
    refine lv_iconst (v := 1) hx hb d_M_end_19 (by decide) ?_
    refine M_ro S (c_M_allFeet l D ca o sa fs g 1 hB (by omega)) k_M_49 rfl hP hK rfl rfl hl.1 ⟨Nat.le_of_ble_eq_true rfl, Nat.le_of_ble_eq_true rfl⟩ ⟨Nat.zero_le _, Nat.zero_le _⟩ (Nat.le_of_ble_eq_true rfl) d_M_end_20 ?_
    refine lv_isub hx hb d_M_end_23 ?_
    exact hret _ _ _ d_M_end_24 rfl (by first | (simp only [hE, ↓reduceIte]; done) | (simp only [hE, ↓reduceIte]; rfl) | rfl)
  · obtain rfl : f = 0 := nI0 (by omega) c_1
    refine lv_aload_n hx hb d_M_end_4 rfl (lv_at hl 0 rfl) ?_
    refine lv_iconst (v := 0) hx hb d_M_end_5 (by decide) ?_
    refine M_ro S (c_M_allFeet l D ca o sa fs g 0 hB (by omega)) k_M_49 rfl hP hK rfl rfl hl.1 ⟨Nat.le_of_ble_eq_true rfl, Nat.le_of_ble_eq_true rfl⟩ ⟨Nat.zero_le _, Nat.zero_le _⟩ (Nat.le_of_ble_eq_true rfl) d_M_end_6 ?_
    refine lv_goto (tgt := 24) hx hb d_M_end_9 (by decide) ?_
    exact hret _ _ _ d_M_end_24 rfl (by first | (simp only [↓reduceIte]; done) | (simp only [↓reduceIte]; rfl) | rfl)
set_option maxHeartbeats 4000000 in
set_option maxRecDepth 100000 in
theorem c_M_gap (l : Launch) (D : va_G) (ca : Nat → ClassId) (o sa : Nat) (fs : List Value) (g : Nat → Int32)  (hB : BN g): RO l y_M_gap b_M_gap 1 (some .int) 5 110 D ca [.ref o] (mw ca o sa fs g) (gp g) := by
  refine RO.mk (ty := .int) rfl rfl (Nat.le_of_ble_eq_true rfl) ?_
  intro p e s m args below meth c Q S hP hK
  obtain ⟨hx, hb, hml, hown, hts⟩ := id S
  intro hret ls hl0
  have hl : lv_has ls 1 [(0, .ref o)] := hl0
  refine lv_aload_n hx hb d_M_gap_0 rfl (lv_at hl 0 rfl) ?_
  refine lv_iconst (v := 1) hx hb d_M_gap_1 (by decide) ?_
  refine M_ro S (c_M_end l D ca o sa fs g 1 hB (by omega)) k_M_53 rfl hP hK rfl rfl hl.1 ⟨Nat.le_of_ble_eq_true rfl, Nat.le_of_ble_eq_true rfl⟩ ⟨Nat.zero_le _, Nat.zero_le _⟩ (Nat.le_of_ble_eq_true rfl) d_M_gap_2 ?_
  refine lv_aload_n hx hb d_M_gap_5 rfl (lv_at hl 0 rfl) ?_
  refine lv_iconst (v := 0) hx hb d_M_gap_6 (by decide) ?_
  refine M_ro S (c_M_end l D ca o sa fs g 0 hB (by omega)) k_M_53 rfl hP hK rfl rfl hl.1 ⟨Nat.le_of_ble_eq_true rfl, Nat.le_of_ble_eq_true rfl⟩ ⟨Nat.zero_le _, Nat.zero_le _⟩ (Nat.le_of_ble_eq_true rfl) d_M_gap_7 ?_
  refine lv_isub hx hb d_M_gap_10 ?_
  refine lv_tope (z := gp g) (gp_en g) ?_
  exact hret _ _ _ d_M_gap_11 rfl (by first | (simp only [↓reduceIte]; done) | (simp only [↓reduceIte]; rfl) | rfl)
set_option maxHeartbeats 4000000 in
set_option maxRecDepth 100000 in
theorem c_M_lower (l : Launch) (D : va_G) (ca : Nat → ClassId) (o sa : Nat) (fs : List Value) (g : Nat → Int32) (f b : Nat) (hf : f < 2) (hb20 : b < 20): RO l y_M_lower b_M_lower 3 (some .int) 3 68 D ca [.ref o, .int (nI f), .int (nI b)] (mw ca o sa fs g) (lo g f b) := by
  refine RO.mk (ty := .int) rfl rfl (Nat.le_of_ble_eq_true rfl) ?_
  intro p e s m args below meth c Q S hP hK
  obtain ⟨hx, hb, hml, hown, hts⟩ := id S
  intro hret ls hl0
  have hl : lv_has ls 3 [(0, .ref o), (1, .int (nI f)), (2, .int (nI b))] := hl0
  refine lv_iload_n hx hb d_M_lower_0 rfl (lv_at hl 1 rfl) ?_
  refine lv_if_ne (tgt := 13) hx hb d_M_lower_1 (by decide) (fun c_1 => ?_) (fun c_1 => ?_)
  · obtain rfl : f = 1 := by have := n0I c_1; omega
    refine lv_aload_n hx hb d_M_lower_13 rfl (lv_at hl 0 rfl) ?_
    refine f_get S cls_M hK hP 0 rfl 0 (by decide) fl_M_s rfl rfl d_M_lower_14 ?_
    refine lv_iconst (v := 0) hx hb d_M_lower_17 (by decide) ?_
    refine M_ld S hK hP (r := 0) (by omega) rfl d_M_lower_18 ?_
    refine lv_aload_n hx hb d_M_lower_19 rfl (lv_at hl 0 rfl) ?_
    refine lv_iconst (v := 1) hx hb d_M_lower_20 (by decide) ?_
    refine lv_iload_n hx hb d_M_lower_21 rfl (lv_at hl 2 rfl) ?_
    refine lv_iconst (v := 1) hx hb d_M_lower_22 (by decide) ?_
    refine lv_iadd hx hb d_M_lower_23 ?_
    refine lv_tope (z := nI (b + 1)) (nI_add b 1) ?_
    refine M_ro S (c_M_feet l D ca o sa fs g 1 (b + 1) (by omega) (by omega)) k_M_46 rfl hP hK rfl rfl hl.1 ⟨Nat.le_of_ble_eq_true rfl, Nat.le_of_ble_eq_true rfl⟩ ⟨Nat.zero_le _, Nat.zero_le _⟩ (Nat.le_of_ble_eq_true rfl) d_M_lower_24 ?_
    refine lv_isub hx hb d_M_lower_27 ?_
    exact hret _ _ _ d_M_lower_28 rfl (by first | (simp only [hE, ↓reduceIte]; done) | (simp only [hE, ↓reduceIte]; rfl) | rfl)
  · obtain rfl : f = 0 := nI0 (by omega) c_1
    refine lv_aload_n hx hb d_M_lower_4 rfl (lv_at hl 0 rfl) ?_
    refine lv_iconst (v := 0) hx hb d_M_lower_5 (by decide) ?_
    refine lv_iload_n hx hb d_M_lower_6 rfl (lv_at hl 2 rfl) ?_
    refine M_ro S (c_M_feet l D ca o sa fs g 0 b (by omega) (by omega)) k_M_46 rfl hP hK rfl rfl hl.1 ⟨Nat.le_of_ble_eq_true rfl, Nat.le_of_ble_eq_true rfl⟩ ⟨Nat.zero_le _, Nat.zero_le _⟩ (Nat.le_of_ble_eq_true rfl) d_M_lower_7 ?_
    refine lv_goto (tgt := 28) hx hb d_M_lower_10 (by decide) ?_
    exact hret _ _ _ d_M_lower_28 rfl (by first | (simp only [↓reduceIte]; done) | (simp only [↓reduceIte]; rfl) | rfl)
set_option maxHeartbeats 4000000 in
set_option maxRecDepth 100000 in
theorem c_M_upper (l : Launch) (D : va_G) (ca : Nat → ClassId) (o sa : Nat) (fs : List Value) (g : Nat → Int32) (f b : Nat) (hf : f < 2) (hb20 : b < 20): RO l y_M_upper b_M_upper 3 (some .int) 4 90 D ca [.ref o, .int (nI f), .int (nI b)] (mw ca o sa fs g) (lo g f b + wl g (f * 20 + b)) := by
  refine RO.mk (ty := .int) rfl rfl (Nat.le_of_ble_eq_true rfl) ?_
  intro p e s m args below meth c Q S hP hK
  obtain ⟨hx, hb, hml, hown, hts⟩ := id S
  intro hret ls hl0
  have hl : lv_has ls 3 [(0, .ref o), (1, .int (nI f)), (2, .int (nI b))] := hl0
  refine lv_aload_n hx hb d_M_upper_0 rfl (lv_at hl 0 rfl) ?_
  refine lv_iload_n hx hb d_M_upper_1 rfl (lv_at hl 1 rfl) ?_
  refine lv_iload_n hx hb d_M_upper_2 rfl (lv_at hl 2 rfl) ?_
  refine M_ro S (c_M_lower l D ca o sa fs g f b (by omega) (by omega)) k_M_56 rfl hP hK rfl rfl hl.1 ⟨Nat.le_of_ble_eq_true rfl, Nat.le_of_ble_eq_true rfl⟩ ⟨Nat.zero_le _, Nat.zero_le _⟩ (Nat.le_of_ble_eq_true rfl) d_M_upper_3 ?_
  refine lv_aload_n hx hb d_M_upper_6 rfl (lv_at hl 0 rfl) ?_
  refine lv_iload_n hx hb d_M_upper_7 rfl (lv_at hl 1 rfl) ?_
  refine lv_iload_n hx hb d_M_upper_8 rfl (lv_at hl 2 rfl) ?_
  refine M_ro S (c_M_whole l D ca o sa fs g f b (by omega) (by omega)) k_M_42 rfl hP hK rfl rfl hl.1 ⟨Nat.le_of_ble_eq_true rfl, Nat.le_of_ble_eq_true rfl⟩ ⟨Nat.zero_le _, Nat.zero_le _⟩ (Nat.le_of_ble_eq_true rfl) d_M_upper_9 ?_
  refine lv_iadd hx hb d_M_upper_12 ?_
  exact hret _ _ _ d_M_upper_13 rfl (by first | (simp only [↓reduceIte]; done) | (simp only [↓reduceIte]; rfl) | rfl)
set_option maxHeartbeats 4000000 in
set_option maxRecDepth 100000 in
theorem c_M_travel (l : Launch) (D : va_G) (ca : Nat → ClassId) (o sa : Nat) (fs : List Value) (g : Nat → Int32) (x : Int32) : MV l y_M_travel b_M_travel 2 1 21 D ca [.ref o, .int x] (mw ca o sa fs g) (mw ca o sa fs (tvm g x)) := by
  refine MV.mk rfl (Nat.le_of_ble_eq_true rfl) ?_
  intro p e s m args below meth c Q A S hA hP hD hK
  obtain ⟨hx, hb, hml, hown, hts⟩ := id S
  intro hret ls hl0 hS
  have hl : lv_has ls 2 [(0, .ref o), (1, .int x)] := hl0
  refine lv_aload_n hx hb d_M_travel_0 rfl (lv_at hl 0 rfl) ?_
  refine f_get S cls_M hK hP 0 rfl 0 (by decide) fl_M_s rfl rfl d_M_travel_1 ?_
  refine lv_bipush (v := 6) hx hb d_M_travel_4 (by decide) ?_
  refine lv_aload_n hx hb d_M_travel_6 rfl (lv_at hl 0 rfl) ?_
  refine f_get S cls_M hK hP 0 rfl 0 (by decide) fl_M_s rfl rfl d_M_travel_7 ?_
  refine lv_bipush (v := 6) hx hb d_M_travel_10 (by decide) ?_
  refine M_ld S hK hP (r := 6) (by omega) rfl d_M_travel_12 ?_
  refine lv_aload_n hx hb d_M_travel_13 rfl (lv_at hl 0 rfl) ?_
  refine f_get S cls_M hK hP 0 rfl 0 (by decide) fl_M_s rfl rfl d_M_travel_14 ?_
  refine lv_iconst (v := 3) hx hb d_M_travel_17 (by decide) ?_
  refine M_ld S hK hP (r := 3) (by omega) rfl d_M_travel_18 ?_
  refine lv_iload_n hx hb d_M_travel_19 rfl (lv_at hl 1 rfl) ?_
  refine RO.callS S (c_M_apart l D ca  (g 3) x ) k_M_59 hK rfl rfl hl.1 ⟨Nat.le_of_ble_eq_true rfl, Nat.le_of_ble_eq_true rfl⟩ ⟨Nat.zero_le _, Nat.zero_le _⟩ (Nat.le_of_ble_eq_true rfl) d_M_travel_20 ?_
  refine lv_iadd hx hb d_M_travel_23 ?_
  refine lv_ldc (v := 1000000000) hx hb hown (hts _ ct_M_62) d_M_travel_24 ?_
  refine lv_irem hx hb d_M_travel_26 (by decide) ?_
  refine M_st S hK hP hD hS (r := 6) (by omega) rfl d_M_travel_27 (fun H locs hP hD hS => ?_)
  obtain ⟨g1, hg1⟩ : ∃ z : Nat → Int32, z = upd g 6 (((g 6) + (ap (g 3) x)) - ((g 6) + (ap (g 3) x)) / 1000000000 * 1000000000) := ⟨_, rfl⟩
  rw [← hg1] at hP hD
  refine lv_aload_n hx hb d_M_travel_28 rfl (lv_at hl 0 rfl) ?_
  refine f_get S cls_M hK hP 0 rfl 0 (by decide) fl_M_s rfl rfl d_M_travel_29 ?_
  refine lv_iconst (v := 3) hx hb d_M_travel_32 (by decide) ?_
  refine lv_iload_n hx hb d_M_travel_33 rfl (lv_at hl 1 rfl) ?_
  refine M_st S hK hP hD hS (r := 3) (by omega) rfl d_M_travel_34 (fun H locs hP hD hS => ?_)
  obtain ⟨g2, hg2⟩ : ∃ z : Nat → Int32, z = upd g1 3 x := ⟨_, rfl⟩
  rw [← hg2] at hP hD
  exact hret _ _ _ _ _ d_M_travel_35 (by subst hg1 hg2; first | (simp only [tvm, rem9, ↓reduceIte]; done) | (simp only [tvm, rem9, ↓reduceIte]; rfl) | rfl) hP hD hS
set_option maxHeartbeats 4000000 in
set_option maxRecDepth 100000 in
theorem c_M_endOf (l : Launch) (D : va_G) (ca : Nat → ClassId) (o sa : Nat) (fs : List Value) (g : Nat → Int32) (f b w q : Nat) (hf : f < 2) (hb20 : b < 20) (hw : w < 2) (hq : q < 2): RO l y_M_endOf b_M_endOf 6 (some .int) 5 112 D ca [.ref o, .int (nI f), .int (nI b), .int (nI w), .int (nI q)] (mw ca o sa fs g) (eo g f b w q) := by
  refine RO.mk (ty := .int) rfl rfl (Nat.le_of_ble_eq_true rfl) ?_
  intro p e s m args below meth c Q S hP hK
  obtain ⟨hx, hb, hml, hown, hts⟩ := id S
  intro hret ls hl0
  have hl : lv_has ls 6 [(0, .ref o), (1, .int (nI f)), (2, .int (nI b)), (3, .int (nI w)), (4, .int (nI q))] := hl0
  refine lv_iload_n hx hb d_M_endOf_0 rfl (lv_at hl 1 rfl) ?_
  refine lv_iload_n hx hb d_M_endOf_1 rfl (lv_at hl 3 rfl) ?_
  refine lv_iadd hx hb d_M_endOf_2 ?_
  refine lv_tope (z := nI (f + w)) (nI_add f w) ?_
  refine lv_iconst (v := 2) hx hb d_M_endOf_3 (by decide) ?_
  refine lv_irem hx hb d_M_endOf_4 (by decide) ?_
  refine lv_tope (z := nI ((f + w) % 2)) (pk_rem (by omega) (by decide) (by decide)) ?_
  refine lv_if_ne (tgt := 12) hx hb d_M_endOf_5 (by decide) (fun c_5 => ?_) (fun c_5 => ?_)
  · have e_5 : ¬ (f + w) % 2 = 0 := n0I c_5
    refine lv_iconst (v := 0) hx hb d_M_endOf_12 (by decide) ?_
    refine lv_iload hx hb d_M_endOf_13 (lv_at hl 4 rfl) ?_
    refine lv_icmp_ne (tgt := 22) hx hb d_M_endOf_15 (by decide) (fun c_15 => ?_) (fun c_15 => ?_)
    · refine lv_iconst (v := 0) hx hb d_M_endOf_22 (by decide) ?_
      refine lv_istore (lv' := [(5, .int 0), (0, .ref o), (1, .int (nI f)), (2, .int (nI b)), (3, .int (nI w)), (4, .int (nI q))]) hx hb d_M_endOf_23 hl (by decide) rfl (fun ls hl => ?_)
      refine lv_iload hx hb d_M_endOf_25 (lv_at hl 0 rfl) ?_
      refine lv_if_eq (tgt := 39) hx hb d_M_endOf_27 (by decide) (fun _ => ?_) (fun q => absurd (by decide) q)
      refine lv_aload_n hx hb d_M_endOf_39 rfl (lv_at hl 1 rfl) ?_
      refine lv_iload_n hx hb d_M_endOf_40 rfl (lv_at hl 2 rfl) ?_
      refine lv_iload_n hx hb d_M_endOf_41 rfl (lv_at hl 3 rfl) ?_
      refine M_ro S (c_M_upper l D ca o sa fs g f b (by omega) (by omega)) k_M_63 rfl hP hK rfl rfl hl.1 ⟨Nat.le_of_ble_eq_true rfl, Nat.le_of_ble_eq_true rfl⟩ ⟨Nat.zero_le _, Nat.zero_le _⟩ (Nat.le_of_ble_eq_true rfl) d_M_endOf_42 ?_
      exact hret _ _ _ d_M_endOf_45 rfl (by first | (simp only [eo, c_5, e_5, c_15, ↓reduceIte]; done) | (simp only [eo, c_5, e_5, c_15, ↓reduceIte]; rfl) | rfl)
    · refine lv_iconst (v := 1) hx hb d_M_endOf_18 (by decide) ?_
      refine lv_goto (tgt := 23) hx hb d_M_endOf_19 (by decide) ?_
      refine lv_istore (lv' := [(5, .int 1), (0, .ref o), (1, .int (nI f)), (2, .int (nI b)), (3, .int (nI w)), (4, .int (nI q))]) hx hb d_M_endOf_23 hl (by decide) rfl (fun ls hl => ?_)
      refine lv_iload hx hb d_M_endOf_25 (lv_at hl 0 rfl) ?_
      refine lv_if_eq (tgt := 39) hx hb d_M_endOf_27 (by decide) (fun q => absurd q (by decide)) (fun _ => ?_)
      refine lv_aload_n hx hb d_M_endOf_30 rfl (lv_at hl 1 rfl) ?_
      refine lv_iload_n hx hb d_M_endOf_31 rfl (lv_at hl 2 rfl) ?_
      refine lv_iload_n hx hb d_M_endOf_32 rfl (lv_at hl 3 rfl) ?_
      refine M_ro S (c_M_lower l D ca o sa fs g f b (by omega) (by omega)) k_M_56 rfl hP hK rfl rfl hl.1 ⟨Nat.le_of_ble_eq_true rfl, Nat.le_of_ble_eq_true rfl⟩ ⟨Nat.zero_le _, Nat.zero_le _⟩ (Nat.le_of_ble_eq_true rfl) d_M_endOf_33 ?_
      refine lv_goto (tgt := 45) hx hb d_M_endOf_36 (by decide) ?_
      exact hret _ _ _ d_M_endOf_45 rfl (by first | (simp only [eo, c_5, e_5, c_15, ↓reduceIte]; done) | (simp only [eo, c_5, e_5, c_15, ↓reduceIte]; rfl) | rfl)
  · have e_5 : (f + w) % 2 = 0 := nI0 (by omega) c_5
    refine lv_iconst (v := 1) hx hb d_M_endOf_8 (by decide) ?_
    refine lv_goto (tgt := 13) hx hb d_M_endOf_9 (by decide) ?_
    refine lv_iload hx hb d_M_endOf_13 (lv_at hl 4 rfl) ?_
    refine lv_icmp_ne (tgt := 22) hx hb d_M_endOf_15 (by decide) (fun c_15 => ?_) (fun c_15 => ?_)
    · refine lv_iconst (v := 0) hx hb d_M_endOf_22 (by decide) ?_
      refine lv_istore (lv' := [(5, .int 0), (0, .ref o), (1, .int (nI f)), (2, .int (nI b)), (3, .int (nI w)), (4, .int (nI q))]) hx hb d_M_endOf_23 hl (by decide) rfl (fun ls hl => ?_)
      refine lv_iload hx hb d_M_endOf_25 (lv_at hl 0 rfl) ?_
      refine lv_if_eq (tgt := 39) hx hb d_M_endOf_27 (by decide) (fun _ => ?_) (fun q => absurd (by decide) q)
      refine lv_aload_n hx hb d_M_endOf_39 rfl (lv_at hl 1 rfl) ?_
      refine lv_iload_n hx hb d_M_endOf_40 rfl (lv_at hl 2 rfl) ?_
      refine lv_iload_n hx hb d_M_endOf_41 rfl (lv_at hl 3 rfl) ?_
      refine M_ro S (c_M_upper l D ca o sa fs g f b (by omega) (by omega)) k_M_63 rfl hP hK rfl rfl hl.1 ⟨Nat.le_of_ble_eq_true rfl, Nat.le_of_ble_eq_true rfl⟩ ⟨Nat.zero_le _, Nat.zero_le _⟩ (Nat.le_of_ble_eq_true rfl) d_M_endOf_42 ?_
      exact hret _ _ _ d_M_endOf_45 rfl (by first | (simp only [eo, c_5, e_5, c_15, ↓reduceIte]; done) | (simp only [eo, c_5, e_5, c_15, ↓reduceIte]; rfl) | rfl)
    · refine lv_iconst (v := 1) hx hb d_M_endOf_18 (by decide) ?_
      refine lv_goto (tgt := 23) hx hb d_M_endOf_19 (by decide) ?_
      refine lv_istore (lv' := [(5, .int 1), (0, .ref o), (1, .int (nI f)), (2, .int (nI b)), (3, .int (nI w)), (4, .int (nI q))]) hx hb d_M_endOf_23 hl (by decide) rfl (fun ls hl => ?_)
      refine lv_iload hx hb d_M_endOf_25 (lv_at hl 0 rfl) ?_
      refine lv_if_eq (tgt := 39) hx hb d_M_endOf_27 (by decide) (fun q => absurd q (by decide)) (fun _ => ?_)
      refine lv_aload_n hx hb d_M_endOf_30 rfl (lv_at hl 1 rfl) ?_
      refine lv_iload_n hx hb d_M_endOf_31 rfl (lv_at hl 2 rfl) ?_
      refine lv_iload_n hx hb d_M_endOf_32 rfl (lv_at hl 3 rfl) ?_
      refine M_ro S (c_M_lower l D ca o sa fs g f b (by omega) (by omega)) k_M_56 rfl hP hK rfl rfl hl.1 ⟨Nat.le_of_ble_eq_true rfl, Nat.le_of_ble_eq_true rfl⟩ ⟨Nat.zero_le _, Nat.zero_le _⟩ (Nat.le_of_ble_eq_true rfl) d_M_endOf_33 ?_
      refine lv_goto (tgt := 45) hx hb d_M_endOf_36 (by decide) ?_
      exact hret _ _ _ d_M_endOf_45 rfl (by first | (simp only [eo, c_5, e_5, c_15, ↓reduceIte]; done) | (simp only [eo, c_5, e_5, c_15, ↓reduceIte]; rfl) | rfl)
set_option maxHeartbeats 4000000 in
set_option maxRecDepth 100000 in
theorem c_M_travelTo (l : Launch) (D : va_G) (ca : Nat → ClassId) (o sa : Nat) (fs : List Value) (g : Nat → Int32) (f b w : Nat) (hf : f < 2) (hb20 : b < 20) (hw : w < 2): RO l y_M_travelTo b_M_travelTo 4 (some .int) 6 137 D ca [.ref o, .int (nI f), .int (nI b), .int (nI w)] (mw ca o sa fs g) (m_tr g f b w) := by
  refine RO.mk (ty := .int) rfl rfl (Nat.le_of_ble_eq_true rfl) ?_
  intro p e s m args below meth c Q S hP hK
  obtain ⟨hx, hb, hml, hown, hts⟩ := id S
  intro hret ls hl0
  have hl : lv_has ls 4 [(0, .ref o), (1, .int (nI f)), (2, .int (nI b)), (3, .int (nI w))] := hl0
  refine lv_aload_n hx hb d_M_travelTo_0 rfl (lv_at hl 0 rfl) ?_
  refine f_get S cls_M hK hP 0 rfl 0 (by decide) fl_M_s rfl rfl d_M_travelTo_1 ?_
  refine lv_iconst (v := 3) hx hb d_M_travelTo_4 (by decide) ?_
  refine M_ld S hK hP (r := 3) (by omega) rfl d_M_travelTo_5 ?_
  refine lv_aload_n hx hb d_M_travelTo_6 rfl (lv_at hl 0 rfl) ?_
  refine lv_iload_n hx hb d_M_travelTo_7 rfl (lv_at hl 1 rfl) ?_
  refine lv_iload_n hx hb d_M_travelTo_8 rfl (lv_at hl 2 rfl) ?_
  refine lv_iload_n hx hb d_M_travelTo_9 rfl (lv_at hl 3 rfl) ?_
  refine lv_iconst (v := 1) hx hb d_M_travelTo_10 (by decide) ?_
  refine M_ro S (c_M_endOf l D ca o sa fs g f b w 1 (by omega) (by omega) (by omega) (by omega)) k_M_66 rfl hP hK rfl rfl hl.1 ⟨Nat.le_of_ble_eq_true rfl, Nat.le_of_ble_eq_true rfl⟩ ⟨Nat.zero_le _, Nat.zero_le _⟩ (Nat.le_of_ble_eq_true rfl) d_M_travelTo_11 ?_
  refine lv_tope (z := sr g f b w) (eo_1 hf hw) ?_
  refine RO.callS S (c_M_apart l D ca  (g 3) (sr g f b w) ) k_M_59 hK rfl rfl hl.1 ⟨Nat.le_of_ble_eq_true rfl, Nat.le_of_ble_eq_true rfl⟩ ⟨Nat.zero_le _, Nat.zero_le _⟩ (Nat.le_of_ble_eq_true rfl) d_M_travelTo_14 ?_
  refine lv_aload_n hx hb d_M_travelTo_17 rfl (lv_at hl 0 rfl) ?_
  refine lv_iload_n hx hb d_M_travelTo_18 rfl (lv_at hl 1 rfl) ?_
  refine lv_iload_n hx hb d_M_travelTo_19 rfl (lv_at hl 2 rfl) ?_
  refine M_ro S (c_M_whole l D ca o sa fs g f b (by omega) (by omega)) k_M_42 rfl hP hK rfl rfl hl.1 ⟨Nat.le_of_ble_eq_true rfl, Nat.le_of_ble_eq_true rfl⟩ ⟨Nat.zero_le _, Nat.zero_le _⟩ (Nat.le_of_ble_eq_true rfl) d_M_travelTo_20 ?_
  refine lv_iadd hx hb d_M_travelTo_23 ?_
  exact hret _ _ _ d_M_travelTo_24 rfl (by first | (simp only [↓reduceIte]; done) | (simp only [↓reduceIte]; rfl) | rfl)
set_option maxHeartbeats 4000000 in
set_option maxRecDepth 100000 in
theorem c_M_writeFault (l : Launch) (D : va_G) (ca : Nat → ClassId) (o sa : Nat) (fs : List Value) (g : Nat → Int32) (x d u : Int32) (hB : BN g): RO l y_M_writeFault b_M_writeFault 4 (some .int) 6 130 D ca [.ref o, .int x, .int d, .int u] (mw ca o sa fs g) (m_wf g x d u) := by
  refine RO.mk (ty := .int) rfl rfl (Nat.le_of_ble_eq_true rfl) ?_
  intro p e s m args below meth c Q S hP hK
  obtain ⟨hx, hb, hml, hown, hts⟩ := id S
  intro hret ls hl0
  have hl : lv_has ls 4 [(0, .ref o), (1, .int x), (2, .int d), (3, .int u)] := hl0
  refine lv_iload_n hx hb d_M_writeFault_0 rfl (lv_at hl 1 rfl) ?_
  refine RO.callS S (c_M_isFile l D ca  x ) k_M_30 hK rfl rfl hl.1 ⟨Nat.le_of_ble_eq_true rfl, Nat.le_of_ble_eq_true rfl⟩ ⟨Nat.zero_le _, Nat.zero_le _⟩ (Nat.le_of_ble_eq_true rfl) d_M_writeFault_1 ?_
  refine lv_if_ne (tgt := 9) hx hb d_M_writeFault_4 (by decide) (fun c_4 => ?_) (fun c_4 => ?_)
  · obtain ⟨f, hf, rfl⟩ := isf_of c_4
    have hcl : (nI f).toNatClampNeg = f := nI_clamp (by omega)
    have hn20 := (hB f hf).2
    refine lv_iload_n hx hb d_M_writeFault_9 rfl (lv_at hl 2 rfl) ?_
    refine lv_iconst (v := 1) hx hb d_M_writeFault_10 (by decide) ?_
    refine lv_bipush (v := 99) hx hb d_M_writeFault_11 (by decide) ?_
    refine RO.callS S (c_M_in l D ca  d 1 99 ) k_M_26 hK rfl rfl hl.1 ⟨Nat.le_of_ble_eq_true rfl, Nat.le_of_ble_eq_true rfl⟩ ⟨Nat.zero_le _, Nat.zero_le _⟩ (Nat.le_of_ble_eq_true rfl) d_M_writeFault_13 ?_
    refine lv_if_eq (tgt := 30) hx hb d_M_writeFault_16 (by decide) (fun c_16 => ?_) (fun c_16 => ?_)
    · refine lv_bipush (v := (-2)) hx hb d_M_writeFault_30 (by decide) ?_
      exact hret _ _ _ d_M_writeFault_32 rfl (by first | (simp only [m_wf, c_4, hcl, c_16, ↓reduceIte]; done) | (simp only [m_wf, c_4, hcl, c_16, ↓reduceIte]; rfl) | rfl)
    · refine lv_iload_n hx hb d_M_writeFault_19 rfl (lv_at hl 3 rfl) ?_
      refine lv_iconst (v := 0) hx hb d_M_writeFault_20 (by decide) ?_
      refine lv_sipush (v := 9999) hx hb d_M_writeFault_21 (by decide) ?_
      refine RO.callS S (c_M_in l D ca  u 0 9999 ) k_M_26 hK rfl rfl hl.1 ⟨Nat.le_of_ble_eq_true rfl, Nat.le_of_ble_eq_true rfl⟩ ⟨Nat.zero_le _, Nat.zero_le _⟩ (Nat.le_of_ble_eq_true rfl) d_M_writeFault_24 ?_
      refine lv_if_ne (tgt := 33) hx hb d_M_writeFault_27 (by decide) (fun c_27 => ?_) (fun c_27 => ?_)
      · refine lv_aload_n hx hb d_M_writeFault_33 rfl (lv_at hl 0 rfl) ?_
        refine f_get S cls_M hK hP 0 rfl 0 (by decide) fl_M_s rfl rfl d_M_writeFault_34 ?_
        refine lv_bipush (v := 8) hx hb d_M_writeFault_37 (by decide) ?_
        refine lv_iload_n hx hb d_M_writeFault_39 rfl (lv_at hl 1 rfl) ?_
        refine lv_iadd hx hb d_M_writeFault_40 ?_
        refine lv_tope (z := nI (8 + f)) (nI_add 8 f) ?_
        refine M_ld S hK hP (r := 8 + f) (by omega) rfl d_M_writeFault_41 ?_
        refine lv_tope (z := nI (bn g f)) ((hB f hf).1) ?_
        refine lv_bipush (v := 20) hx hb d_M_writeFault_42 (by decide) ?_
        refine lv_icmp_ne (tgt := 50) hx hb d_M_writeFault_44 (by decide) (fun c_44 => ?_) (fun c_44 => ?_)
        · refine lv_aload_n hx hb d_M_writeFault_50 rfl (lv_at hl 0 rfl) ?_
          refine M_ro S (c_M_gap l D ca o sa fs g  hB) k_M_70 rfl hP hK rfl rfl hl.1 ⟨Nat.le_of_ble_eq_true rfl, Nat.le_of_ble_eq_true rfl⟩ ⟨Nat.zero_le _, Nat.zero_le _⟩ (Nat.le_of_ble_eq_true rfl) d_M_writeFault_51 ?_
          refine lv_iload_n hx hb d_M_writeFault_54 rfl (lv_at hl 2 rfl) ?_
          refine lv_isub hx hb d_M_writeFault_55 ?_
          refine lv_iconst (v := 2) hx hb d_M_writeFault_56 (by decide) ?_
          refine lv_aload_n hx hb d_M_writeFault_57 rfl (lv_at hl 0 rfl) ?_
          refine f_get S cls_M hK hP 0 rfl 0 (by decide) fl_M_s rfl rfl d_M_writeFault_58 ?_
          refine lv_iconst (v := 2) hx hb d_M_writeFault_61 (by decide) ?_
          refine M_ld S hK hP (r := 2) (by omega) rfl d_M_writeFault_62 ?_
          refine lv_imul hx hb d_M_writeFault_63 ?_
          refine lv_isub hx hb d_M_writeFault_64 ?_
          refine lv_aload_n hx hb d_M_writeFault_65 rfl (lv_at hl 0 rfl) ?_
          refine f_get S cls_M hK hP 0 rfl 0 (by decide) fl_M_s rfl rfl d_M_writeFault_66 ?_
          refine lv_iconst (v := 1) hx hb d_M_writeFault_69 (by decide) ?_
          refine M_ld S hK hP (r := 1) (by omega) rfl d_M_writeFault_70 ?_
          refine lv_icmp_ge (tgt := 79) hx hb d_M_writeFault_71 (by decide) (fun c_71 => ?_) (fun c_71 => ?_)
          · refine lv_iconst (v := 0) hx hb d_M_writeFault_79 (by decide) ?_
            exact hret _ _ _ d_M_writeFault_80 rfl (by first | (simp only [m_wf, c_4, hcl, c_16, c_27, c_44, c_71, ↓reduceIte]; done) | (simp only [m_wf, c_4, hcl, c_16, c_27, c_44, c_71, ↓reduceIte]; rfl) | rfl)
          · refine lv_bipush (v := (-5)) hx hb d_M_writeFault_74 (by decide) ?_
            refine lv_goto (tgt := 80) hx hb d_M_writeFault_76 (by decide) ?_
            exact hret _ _ _ d_M_writeFault_80 rfl (by first | (simp only [m_wf, c_4, hcl, c_16, c_27, c_44, c_71, ↓reduceIte]; done) | (simp only [m_wf, c_4, hcl, c_16, c_27, c_44, c_71, ↓reduceIte]; rfl) | rfl)
        · refine lv_bipush (v := (-4)) hx hb d_M_writeFault_47 (by decide) ?_
          exact hret _ _ _ d_M_writeFault_49 rfl (by first | (simp only [m_wf, c_4, hcl, c_16, c_27, c_44, ↓reduceIte]; done) | (simp only [m_wf, c_4, hcl, c_16, c_27, c_44, ↓reduceIte]; rfl) | rfl)
      · refine lv_bipush (v := (-2)) hx hb d_M_writeFault_30 (by decide) ?_
        exact hret _ _ _ d_M_writeFault_32 rfl (by first | (simp only [m_wf, c_4, hcl, c_16, c_27, ↓reduceIte]; done) | (simp only [m_wf, c_4, hcl, c_16, c_27, ↓reduceIte]; rfl) | rfl)
  · refine lv_iconst (v := (-1)) hx hb d_M_writeFault_7 (by decide) ?_
    exact hret _ _ _ d_M_writeFault_8 rfl (by first | (simp only [m_wf, c_4, ↓reduceIte]; done) | (simp only [m_wf, c_4, ↓reduceIte]; rfl) | rfl)
set_option maxHeartbeats 4000000 in
set_option maxRecDepth 100000 in
theorem c_M_writes (l : Launch) (D : va_G) (ca : Nat → ClassId) (o sa : Nat) (fs : List Value) (g : Nat → Int32) (f : Nat) (d u : Int32) (hB : BN g) (hf : f < 2) (hlt : bn g f < 20): MI l y_M_writes b_M_writes 5 (some .int) 5 110 D ca [.ref o, .int (nI f), .int d, .int u] (mw ca o sa fs g) (nI (bn g f)) (mw ca o sa fs (m_wr g f (bn g f) d u)) := by
  refine MI.mk (ty := .int) rfl rfl (Nat.le_of_ble_eq_true rfl) ?_
  intro p e s m args below meth c Q A S hA hP hD hK
  obtain ⟨hx, hb, hml, hown, hts⟩ := id S
  intro hret ls hl0 hS
  have hl : lv_has ls 5 [(0, .ref o), (1, .int (nI f)), (2, .int d), (3, .int u)] := hl0
  refine lv_aload_n hx hb d_M_writes_0 rfl (lv_at hl 0 rfl) ?_
  refine lv_aload_n hx hb d_M_writes_1 rfl (lv_at hl 0 rfl) ?_
  refine lv_iload_n hx hb d_M_writes_2 rfl (lv_at hl 1 rfl) ?_
  refine M_ro S (c_M_end l D ca o sa fs g f hB (by omega)) k_M_53 rfl hP hK rfl rfl hl.1 ⟨Nat.le_of_ble_eq_true rfl, Nat.le_of_ble_eq_true rfl⟩ ⟨Nat.zero_le _, Nat.zero_le _⟩ (Nat.le_of_ble_eq_true rfl) d_M_writes_3 ?_
  refine M_mv S (c_M_travel l D ca o sa fs g (en g f) ) k_M_74 rfl hP hD hS hA hK rfl rfl hl.1 ⟨Nat.le_of_ble_eq_true rfl, Nat.le_of_ble_eq_true rfl⟩ ⟨Nat.zero_le _, Nat.zero_le _⟩ (Nat.le_of_ble_eq_true rfl) d_M_writes_6 (fun H locs hP hD hS => ?_)
  obtain ⟨g1, hg1⟩ : ∃ z : Nat → Int32, z = tvm g (en g f) := ⟨_, rfl⟩
  rw [← hg1] at hP hD
  have hB1 : BN g1 := by rw [hg1]; exact BN_tvm hB
  have hb1 : bn g1 f = bn g f := by rw [hg1]; exact bn_tvm hf
  refine lv_aload_n hx hb d_M_writes_9 rfl (lv_at hl 0 rfl) ?_
  refine f_get S cls_M hK hP 0 rfl 0 (by decide) fl_M_s rfl rfl d_M_writes_10 ?_
  refine lv_bipush (v := 8) hx hb d_M_writes_13 (by decide) ?_
  refine lv_iload_n hx hb d_M_writes_15 rfl (lv_at hl 1 rfl) ?_
  refine lv_iadd hx hb d_M_writes_16 ?_
  refine lv_tope (z := nI (8 + f)) (nI_add 8 f) ?_
  refine M_ld S hK hP (r := 8 + f) (by omega) rfl d_M_writes_17 ?_
  refine lv_tope (z := nI (bn g f)) (by rw [(hB1 f hf).1, hb1]) ?_
  refine lv_istore (lv' := [(4, .int (nI (bn g f))), (0, .ref o), (1, .int (nI f)), (2, .int d), (3, .int u)]) hx hb d_M_writes_18 hl (by decide) rfl (fun ls hl => ?_)
  refine lv_aload_n hx hb d_M_writes_20 rfl (lv_at hl 1 rfl) ?_
  refine f_get S cls_M hK hP 0 rfl 0 (by decide) fl_M_s rfl rfl d_M_writes_21 ?_
  refine lv_iload_n hx hb d_M_writes_24 rfl (lv_at hl 2 rfl) ?_
  refine lv_iload hx hb d_M_writes_25 (lv_at hl 0 rfl) ?_
  refine lv_iconst (v := 0) hx hb d_M_writes_27 (by decide) ?_
  refine RO.callS S (c_M_of l D ca  f (bn g f) 0 ) k_M_38 hK rfl rfl hl.1 ⟨Nat.le_of_ble_eq_true rfl, Nat.le_of_ble_eq_true rfl⟩ ⟨Nat.zero_le _, Nat.zero_le _⟩ (Nat.le_of_ble_eq_true rfl) d_M_writes_28 ?_
  refine lv_iload_n hx hb d_M_writes_31 rfl (lv_at hl 3 rfl) ?_
  refine M_st S hK hP hD hS (r := 10 + 4 * (f * 20 + (bn g f)) + 0) (by omega) rfl d_M_writes_32 (fun H locs hP hD hS => ?_)
  obtain ⟨g2, hg2⟩ : ∃ z : Nat → Int32, z = upd g1 (10 + 4 * (f * 20 + (bn g f)) + 0) d := ⟨_, rfl⟩
  rw [← hg2] at hP hD
  refine lv_aload_n hx hb d_M_writes_33 rfl (lv_at hl 1 rfl) ?_
  refine f_get S cls_M hK hP 0 rfl 0 (by decide) fl_M_s rfl rfl d_M_writes_34 ?_
  refine lv_iload_n hx hb d_M_writes_37 rfl (lv_at hl 2 rfl) ?_
  refine lv_iload hx hb d_M_writes_38 (lv_at hl 0 rfl) ?_
  refine lv_iconst (v := 1) hx hb d_M_writes_40 (by decide) ?_
  refine RO.callS S (c_M_of l D ca  f (bn g f) 1 ) k_M_38 hK rfl rfl hl.1 ⟨Nat.le_of_ble_eq_true rfl, Nat.le_of_ble_eq_true rfl⟩ ⟨Nat.zero_le _, Nat.zero_le _⟩ (Nat.le_of_ble_eq_true rfl) d_M_writes_41 ?_
  refine lv_iload_n hx hb d_M_writes_44 rfl (lv_at hl 4 rfl) ?_
  refine M_st S hK hP hD hS (r := 10 + 4 * (f * 20 + (bn g f)) + 1) (by omega) rfl d_M_writes_45 (fun H locs hP hD hS => ?_)
  obtain ⟨g3, hg3⟩ : ∃ z : Nat → Int32, z = upd g2 (10 + 4 * (f * 20 + (bn g f)) + 1) u := ⟨_, rfl⟩
  rw [← hg3] at hP hD
  refine lv_aload_n hx hb d_M_writes_46 rfl (lv_at hl 1 rfl) ?_
  refine f_get S cls_M hK hP 0 rfl 0 (by decide) fl_M_s rfl rfl d_M_writes_47 ?_
  refine lv_iload_n hx hb d_M_writes_50 rfl (lv_at hl 2 rfl) ?_
  refine lv_iload hx hb d_M_writes_51 (lv_at hl 0 rfl) ?_
  refine lv_iconst (v := 2) hx hb d_M_writes_53 (by decide) ?_
  refine RO.callS S (c_M_of l D ca  f (bn g f) 2 ) k_M_38 hK rfl rfl hl.1 ⟨Nat.le_of_ble_eq_true rfl, Nat.le_of_ble_eq_true rfl⟩ ⟨Nat.zero_le _, Nat.zero_le _⟩ (Nat.le_of_ble_eq_true rfl) d_M_writes_54 ?_
  refine lv_aload_n hx hb d_M_writes_57 rfl (lv_at hl 1 rfl) ?_
  refine f_get S cls_M hK hP 0 rfl 0 (by decide) fl_M_s rfl rfl d_M_writes_58 ?_
  refine lv_iconst (v := 2) hx hb d_M_writes_61 (by decide) ?_
  refine M_ld S hK hP (r := 2) (by omega) rfl d_M_writes_62 ?_
  refine M_st S hK hP hD hS (r := 10 + 4 * (f * 20 + (bn g f)) + 2) (by omega) rfl d_M_writes_63 (fun H locs hP hD hS => ?_)
  obtain ⟨g4, hg4⟩ : ∃ z : Nat → Int32, z = upd g3 (10 + 4 * (f * 20 + (bn g f)) + 2) (g3 2) := ⟨_, rfl⟩
  rw [← hg4] at hP hD
  refine lv_aload_n hx hb d_M_writes_64 rfl (lv_at hl 1 rfl) ?_
  refine f_get S cls_M hK hP 0 rfl 0 (by decide) fl_M_s rfl rfl d_M_writes_65 ?_
  refine lv_iload_n hx hb d_M_writes_68 rfl (lv_at hl 2 rfl) ?_
  refine lv_iload hx hb d_M_writes_69 (lv_at hl 0 rfl) ?_
  refine lv_iconst (v := 3) hx hb d_M_writes_71 (by decide) ?_
  refine RO.callS S (c_M_of l D ca  f (bn g f) 3 ) k_M_38 hK rfl rfl hl.1 ⟨Nat.le_of_ble_eq_true rfl, Nat.le_of_ble_eq_true rfl⟩ ⟨Nat.zero_le _, Nat.zero_le _⟩ (Nat.le_of_ble_eq_true rfl) d_M_writes_72 ?_
  refine lv_iconst (v := 0) hx hb d_M_writes_75 (by decide) ?_
  refine M_st S hK hP hD hS (r := 10 + 4 * (f * 20 + (bn g f)) + 3) (by omega) rfl d_M_writes_76 (fun H locs hP hD hS => ?_)
  obtain ⟨g5, hg5⟩ : ∃ z : Nat → Int32, z = upd g4 (10 + 4 * (f * 20 + (bn g f)) + 3) 0 := ⟨_, rfl⟩
  rw [← hg5] at hP hD
  have hB5 : BN g5 := by rw [hg5, hg4, hg3, hg2]; exact BN_up (by omega) (BN_up (by omega) (BN_up (by omega) (BN_up (by omega) hB1)))
  have hb5 : bn g5 f = bn g f := by rw [hg5, hg4, hg3, hg2, bn_up hf (by omega), bn_up hf (by omega), bn_up hf (by omega), bn_up hf (by omega), hb1]
  refine lv_aload_n hx hb d_M_writes_77 rfl (lv_at hl 1 rfl) ?_
  refine f_get S cls_M hK hP 0 rfl 0 (by decide) fl_M_s rfl rfl d_M_writes_78 ?_
  refine lv_bipush (v := 8) hx hb d_M_writes_81 (by decide) ?_
  refine lv_iload_n hx hb d_M_writes_83 rfl (lv_at hl 2 rfl) ?_
  refine lv_iadd hx hb d_M_writes_84 ?_
  refine lv_tope (z := nI (8 + f)) (nI_add 8 f) ?_
  refine lv_dup2_11 hx hb d_M_writes_85 rfl rfl ?_
  refine M_ld S hK hP (r := 8 + f) (by omega) rfl d_M_writes_86 ?_
  refine lv_tope (z := nI (bn g f)) (by rw [(hB5 f hf).1, hb5]) ?_
  refine lv_iconst (v := 1) hx hb d_M_writes_87 (by decide) ?_
  refine lv_iadd hx hb d_M_writes_88 ?_
  refine lv_tope (z := nI ((bn g f) + 1)) (nI_add (bn g f) 1) ?_
  refine M_st S hK hP hD hS (r := 8 + f) (by omega) rfl d_M_writes_89 (fun H locs hP hD hS => ?_)
  obtain ⟨g6, hg6⟩ : ∃ z : Nat → Int32, z = upd g5 (8 + f) (nI ((bn g f) + 1)) := ⟨_, rfl⟩
  rw [← hg6] at hP hD
  have hB6 : BN g6 := by rw [hg6]; exact BN_set hf (by omega) hB5
  refine lv_aload_n hx hb d_M_writes_90 rfl (lv_at hl 1 rfl) ?_
  refine lv_aload_n hx hb d_M_writes_91 rfl (lv_at hl 1 rfl) ?_
  refine lv_iload_n hx hb d_M_writes_92 rfl (lv_at hl 2 rfl) ?_
  refine M_ro S (c_M_end l D ca o sa fs g6 f hB6 (by omega)) k_M_53 rfl hP hK rfl rfl hl.1 ⟨Nat.le_of_ble_eq_true rfl, Nat.le_of_ble_eq_true rfl⟩ ⟨Nat.zero_le _, Nat.zero_le _⟩ (Nat.le_of_ble_eq_true rfl) d_M_writes_93 ?_
  refine M_mv S (c_M_travel l D ca o sa fs g6 (en g6 f) ) k_M_74 rfl hP hD hS hA hK rfl rfl hl.1 ⟨Nat.le_of_ble_eq_true rfl, Nat.le_of_ble_eq_true rfl⟩ ⟨Nat.zero_le _, Nat.zero_le _⟩ (Nat.le_of_ble_eq_true rfl) d_M_writes_96 (fun H locs hP hD hS => ?_)
  obtain ⟨g7, hg7⟩ : ∃ z : Nat → Int32, z = tvm g6 (en g6 f) := ⟨_, rfl⟩
  rw [← hg7] at hP hD
  refine lv_iload hx hb d_M_writes_99 (lv_at hl 0 rfl) ?_
  exact hret _ _ _ _ _ _ d_M_writes_101 rfl (by subst hg1 hg2 hg3 hg4 hg5 hg6 hg7; first | (simp only [↓reduceIte]; done) | (simp only [↓reduceIte]; rfl) | rfl) (by subst hg1 hg2 hg3 hg4 hg5 hg6 hg7; first | (simp only [↓reduceIte]; done) | (simp only [↓reduceIte]; rfl) | rfl) hP hD hS
set_option maxHeartbeats 4000000 in
set_option maxRecDepth 100000 in
theorem c_M_cutFault (l : Launch) (D : va_G) (ca : Nat → ClassId) (o sa : Nat) (fs : List Value) (g : Nat → Int32) (x y : Int32) (hB : BN g): RO l y_M_cutFault b_M_cutFault 3 (some .int) 2 42 D ca [.ref o, .int x, .int y] (mw ca o sa fs g) (m_cf g x y) := by
  refine RO.mk (ty := .int) rfl rfl (Nat.le_of_ble_eq_true rfl) ?_
  intro p e s m args below meth c Q S hP hK
  obtain ⟨hx, hb, hml, hown, hts⟩ := id S
  intro hret ls hl0
  have hl : lv_has ls 3 [(0, .ref o), (1, .int x), (2, .int y)] := hl0
  refine lv_iload_n hx hb d_M_cutFault_0 rfl (lv_at hl 1 rfl) ?_
  refine RO.callS S (c_M_isFile l D ca  x ) k_M_30 hK rfl rfl hl.1 ⟨Nat.le_of_ble_eq_true rfl, Nat.le_of_ble_eq_true rfl⟩ ⟨Nat.zero_le _, Nat.zero_le _⟩ (Nat.le_of_ble_eq_true rfl) d_M_cutFault_1 ?_
  refine lv_if_ne (tgt := 11) hx hb d_M_cutFault_4 (by decide) (fun c_4 => ?_) (fun c_4 => ?_)
  · obtain ⟨f, hf, rfl⟩ := isf_of c_4
    have hcl : (nI f).toNatClampNeg = f := nI_clamp (by omega)
    have hn20 := (hB f hf).2
    refine lv_iload_n hx hb d_M_cutFault_11 rfl (lv_at hl 2 rfl) ?_
    refine lv_if_ge (tgt := 20) hx hb d_M_cutFault_12 (by decide) (fun c_12 => ?_) (fun c_12 => ?_)
    · refine lv_iload_n hx hb d_M_cutFault_20 rfl (lv_at hl 2 rfl) ?_
      refine lv_aload_n hx hb d_M_cutFault_21 rfl (lv_at hl 0 rfl) ?_
      refine f_get S cls_M hK hP 0 rfl 0 (by decide) fl_M_s rfl rfl d_M_cutFault_22 ?_
      refine lv_bipush (v := 8) hx hb d_M_cutFault_25 (by decide) ?_
      refine lv_iload_n hx hb d_M_cutFault_27 rfl (lv_at hl 1 rfl) ?_
      refine lv_iadd hx hb d_M_cutFault_28 ?_
      refine lv_tope (z := nI (8 + f)) (nI_add 8 f) ?_
      refine M_ld S hK hP (r := 8 + f) (by omega) rfl d_M_cutFault_29 ?_
      refine lv_tope (z := nI (bn g f)) ((hB f hf).1) ?_
      refine lv_icmp_le (tgt := 38) hx hb d_M_cutFault_30 (by decide) (fun c_30 => ?_) (fun c_30 => ?_)
      · refine lv_iconst (v := 0) hx hb d_M_cutFault_38 (by decide) ?_
        exact hret _ _ _ d_M_cutFault_39 rfl (by first | (simp only [m_cf, c_4, hcl, c_12, c_30, ↓reduceIte]; done) | (simp only [m_cf, c_4, hcl, c_12, c_30, ↓reduceIte]; rfl) | rfl)
      · refine lv_bipush (v := (-5)) hx hb d_M_cutFault_33 (by decide) ?_
        refine lv_goto (tgt := 39) hx hb d_M_cutFault_35 (by decide) ?_
        exact hret _ _ _ d_M_cutFault_39 rfl (by first | (simp only [m_cf, c_4, hcl, c_12, c_30, ↓reduceIte]; done) | (simp only [m_cf, c_4, hcl, c_12, c_30, ↓reduceIte]; rfl) | rfl)
    · refine lv_bipush (v := (-2)) hx hb d_M_cutFault_15 (by decide) ?_
      refine lv_goto (tgt := 39) hx hb d_M_cutFault_17 (by decide) ?_
      exact hret _ _ _ d_M_cutFault_39 rfl (by first | (simp only [m_cf, c_4, hcl, c_12, ↓reduceIte]; done) | (simp only [m_cf, c_4, hcl, c_12, ↓reduceIte]; rfl) | rfl)
  · refine lv_iconst (v := (-1)) hx hb d_M_cutFault_7 (by decide) ?_
    refine lv_goto (tgt := 39) hx hb d_M_cutFault_8 (by decide) ?_
    exact hret _ _ _ d_M_cutFault_39 rfl (by first | (simp only [m_cf, c_4, ↓reduceIte]; done) | (simp only [m_cf, c_4, ↓reduceIte]; rfl) | rfl)
set_option maxHeartbeats 4000000 in
set_option maxRecDepth 100000 in
theorem c_M_cuts (l : Launch) (D : va_G) (ca : Nat → ClassId) (o sa : Nat) (fs : List Value) (g : Nat → Int32) (f : Nat) (y : Int32) (hB : BN g) (hf : f < 2): MI l y_M_cuts b_M_cuts 4 (some .int) 0 0 D ca [.ref o, .int (nI f), .int y] (mw ca o sa fs g) (nI (bn g f) - y) (mw ca o sa fs (upd g (8 + f) y)) := by
  refine MI.mk (ty := .int) rfl rfl (Nat.le_of_ble_eq_true rfl) ?_
  intro p e s m args below meth c Q A S hA hP hD hK
  obtain ⟨hx, hb, hml, hown, hts⟩ := id S
  intro hret ls hl0 hS
  have hl : lv_has ls 4 [(0, .ref o), (1, .int (nI f)), (2, .int y)] := hl0
  refine lv_aload_n hx hb d_M_cuts_0 rfl (lv_at hl 0 rfl) ?_
  refine f_get S cls_M hK hP 0 rfl 0 (by decide) fl_M_s rfl rfl d_M_cuts_1 ?_
  refine lv_bipush (v := 8) hx hb d_M_cuts_4 (by decide) ?_
  refine lv_iload_n hx hb d_M_cuts_6 rfl (lv_at hl 1 rfl) ?_
  refine lv_iadd hx hb d_M_cuts_7 ?_
  refine lv_tope (z := nI (8 + f)) (nI_add 8 f) ?_
  refine M_ld S hK hP (r := 8 + f) (by omega) rfl d_M_cuts_8 ?_
  refine lv_tope (z := nI (bn g f)) ((hB f hf).1) ?_
  refine lv_iload_n hx hb d_M_cuts_9 rfl (lv_at hl 2 rfl) ?_
  refine lv_isub hx hb d_M_cuts_10 ?_
  refine lv_istore_n (lv' := [(3, .int ((nI (bn g f)) - y)), (0, .ref o), (1, .int (nI f)), (2, .int y)]) hx hb d_M_cuts_11 rfl hl (by decide) rfl (fun ls hl => ?_)
  refine lv_aload_n hx hb d_M_cuts_12 rfl (lv_at hl 1 rfl) ?_
  refine f_get S cls_M hK hP 0 rfl 0 (by decide) fl_M_s rfl rfl d_M_cuts_13 ?_
  refine lv_bipush (v := 8) hx hb d_M_cuts_16 (by decide) ?_
  refine lv_iload_n hx hb d_M_cuts_18 rfl (lv_at hl 2 rfl) ?_
  refine lv_iadd hx hb d_M_cuts_19 ?_
  refine lv_tope (z := nI (8 + f)) (nI_add 8 f) ?_
  refine lv_iload_n hx hb d_M_cuts_20 rfl (lv_at hl 3 rfl) ?_
  refine M_st S hK hP hD hS (r := 8 + f) (by omega) rfl d_M_cuts_21 (fun H locs hP hD hS => ?_)
  obtain ⟨g1, hg1⟩ : ∃ z : Nat → Int32, z = upd g (8 + f) y := ⟨_, rfl⟩
  rw [← hg1] at hP hD
  refine lv_iload_n hx hb d_M_cuts_22 rfl (lv_at hl 0 rfl) ?_
  exact hret _ _ _ _ _ _ d_M_cuts_23 rfl (by subst hg1; first | (simp only [↓reduceIte]; done) | (simp only [↓reduceIte]; rfl) | rfl) (by subst hg1; first | (simp only [↓reduceIte]; done) | (simp only [↓reduceIte]; rfl) | rfl) hP hD hS
set_option maxHeartbeats 4000000 in
set_option maxRecDepth 100000 in
theorem c_M_moves (l : Launch) (D : va_G) (ca : Nat → ClassId) (o sa : Nat) (fs : List Value) (g : Nat → Int32) (x : Int32) : MI l y_M_moves b_M_moves 3 (some .int) 2 42 D ca [.ref o, .int x] (mw ca o sa fs g) (ap (g 3) x) (mw ca o sa fs (tvm g x)) := by
  refine MI.mk (ty := .int) rfl rfl (Nat.le_of_ble_eq_true rfl) ?_
  intro p e s m args below meth c Q A S hA hP hD hK
  obtain ⟨hx, hb, hml, hown, hts⟩ := id S
  intro hret ls hl0 hS
  have hl : lv_has ls 3 [(0, .ref o), (1, .int x)] := hl0
  refine lv_aload_n hx hb d_M_moves_0 rfl (lv_at hl 0 rfl) ?_
  refine f_get S cls_M hK hP 0 rfl 0 (by decide) fl_M_s rfl rfl d_M_moves_1 ?_
  refine lv_iconst (v := 3) hx hb d_M_moves_4 (by decide) ?_
  refine M_ld S hK hP (r := 3) (by omega) rfl d_M_moves_5 ?_
  refine lv_iload_n hx hb d_M_moves_6 rfl (lv_at hl 1 rfl) ?_
  refine RO.callS S (c_M_apart l D ca  (g 3) x ) k_M_59 hK rfl rfl hl.1 ⟨Nat.le_of_ble_eq_true rfl, Nat.le_of_ble_eq_true rfl⟩ ⟨Nat.zero_le _, Nat.zero_le _⟩ (Nat.le_of_ble_eq_true rfl) d_M_moves_7 ?_
  refine lv_istore_n (lv' := [(2, .int (ap (g 3) x)), (0, .ref o), (1, .int x)]) hx hb d_M_moves_10 rfl hl (by decide) rfl (fun ls hl => ?_)
  refine lv_aload_n hx hb d_M_moves_11 rfl (lv_at hl 1 rfl) ?_
  refine lv_iload_n hx hb d_M_moves_12 rfl (lv_at hl 2 rfl) ?_
  refine M_mv S (c_M_travel l D ca o sa fs g x ) k_M_74 rfl hP hD hS hA hK rfl rfl hl.1 ⟨Nat.le_of_ble_eq_true rfl, Nat.le_of_ble_eq_true rfl⟩ ⟨Nat.zero_le _, Nat.zero_le _⟩ (Nat.le_of_ble_eq_true rfl) d_M_moves_13 (fun H locs hP hD hS => ?_)
  obtain ⟨g1, hg1⟩ : ∃ z : Nat → Int32, z = tvm g x := ⟨_, rfl⟩
  rw [← hg1] at hP hD
  refine lv_iload_n hx hb d_M_moves_16 rfl (lv_at hl 0 rfl) ?_
  exact hret _ _ _ _ _ _ d_M_moves_17 rfl (by subst hg1; first | (simp only [↓reduceIte]; done) | (simp only [↓reduceIte]; rfl) | rfl) (by subst hg1; first | (simp only [↓reduceIte]; done) | (simp only [↓reduceIte]; rfl) | rfl) hP hD hS
set_option maxHeartbeats 4000000 in
set_option maxRecDepth 100000 in
theorem c_M_rewinds (l : Launch) (D : va_G) (ca : Nat → ClassId) (o sa : Nat) (fs : List Value) (g : Nat → Int32)  : MI l y_M_rewinds b_M_rewinds 1 (some .int) 2 42 D ca [.ref o] (mw ca o sa fs g) ((m_rew g).1) (mw ca o sa fs ((m_rew g).2)) := by
  refine MI.mk (ty := .int) rfl rfl (Nat.le_of_ble_eq_true rfl) ?_
  intro p e s m args below meth c Q A S hA hP hD hK
  obtain ⟨hx, hb, hml, hown, hts⟩ := id S
  intro hret ls hl0 hS
  have hl : lv_has ls 1 [(0, .ref o)] := hl0
  refine lv_aload_n hx hb d_M_rewinds_0 rfl (lv_at hl 0 rfl) ?_
  refine lv_aload_n hx hb d_M_rewinds_1 rfl (lv_at hl 0 rfl) ?_
  refine f_get S cls_M hK hP 0 rfl 0 (by decide) fl_M_s rfl rfl d_M_rewinds_2 ?_
  refine lv_iconst (v := 3) hx hb d_M_rewinds_5 (by decide) ?_
  refine M_ld S hK hP (r := 3) (by omega) rfl d_M_rewinds_6 ?_
  refine lv_aload_n hx hb d_M_rewinds_7 rfl (lv_at hl 0 rfl) ?_
  refine f_get S cls_M hK hP 0 rfl 0 (by decide) fl_M_s rfl rfl d_M_rewinds_8 ?_
  refine lv_iconst (v := 0) hx hb d_M_rewinds_11 (by decide) ?_
  refine M_ld S hK hP (r := 0) (by omega) rfl d_M_rewinds_12 ?_
  refine lv_aload_n hx hb d_M_rewinds_13 rfl (lv_at hl 0 rfl) ?_
  refine f_get S cls_M hK hP 0 rfl 0 (by decide) fl_M_s rfl rfl d_M_rewinds_14 ?_
  refine lv_iconst (v := 3) hx hb d_M_rewinds_17 (by decide) ?_
  refine M_ld S hK hP (r := 3) (by omega) rfl d_M_rewinds_18 ?_
  refine lv_isub hx hb d_M_rewinds_19 ?_
  refine lv_icmp_gt (tgt := 27) hx hb d_M_rewinds_20 (by decide) (fun c_20 => ?_) (fun c_20 => ?_)
  · refine lv_aload_n hx hb d_M_rewinds_27 rfl (lv_at hl 0 rfl) ?_
    refine f_get S cls_M hK hP 0 rfl 0 (by decide) fl_M_s rfl rfl d_M_rewinds_28 ?_
    refine lv_iconst (v := 0) hx hb d_M_rewinds_31 (by decide) ?_
    refine M_ld S hK hP (r := 0) (by omega) rfl d_M_rewinds_32 ?_
    refine M_mv S (c_M_travel l D ca o sa fs g (g 0) ) k_M_74 rfl hP hD hS hA hK rfl rfl hl.1 ⟨Nat.le_of_ble_eq_true rfl, Nat.le_of_ble_eq_true rfl⟩ ⟨Nat.zero_le _, Nat.zero_le _⟩ (Nat.le_of_ble_eq_true rfl) d_M_rewinds_33 (fun H locs hP hD hS => ?_)
    obtain ⟨g1, hg1⟩ : ∃ z : Nat → Int32, z = tvm g (g 0) := ⟨_, rfl⟩
    rw [← hg1] at hP hD
    refine lv_aload_n hx hb d_M_rewinds_36 rfl (lv_at hl 0 rfl) ?_
    refine f_get S cls_M hK hP 0 rfl 0 (by decide) fl_M_s rfl rfl d_M_rewinds_37 ?_
    refine lv_iconst (v := 3) hx hb d_M_rewinds_40 (by decide) ?_
    refine M_ld S hK hP (r := 3) (by omega) rfl d_M_rewinds_41 ?_
    exact hret _ _ _ _ _ _ d_M_rewinds_42 rfl (by subst hg1; first | (simp only [m_rew, c_20, ↓reduceIte]; done) | (simp only [m_rew, c_20, ↓reduceIte]; rfl) | rfl) (by subst hg1; first | (simp only [m_rew, c_20, ↓reduceIte]; done) | (simp only [m_rew, c_20, ↓reduceIte]; rfl) | rfl) hP hD hS
  · refine lv_iconst (v := 0) hx hb d_M_rewinds_23 (by decide) ?_
    refine lv_goto (tgt := 33) hx hb d_M_rewinds_24 (by decide) ?_
    refine M_mv S (c_M_travel l D ca o sa fs g 0 ) k_M_74 rfl hP hD hS hA hK rfl rfl hl.1 ⟨Nat.le_of_ble_eq_true rfl, Nat.le_of_ble_eq_true rfl⟩ ⟨Nat.zero_le _, Nat.zero_le _⟩ (Nat.le_of_ble_eq_true rfl) d_M_rewinds_33 (fun H locs hP hD hS => ?_)
    obtain ⟨g2, hg2⟩ : ∃ z : Nat → Int32, z = tvm g 0 := ⟨_, rfl⟩
    rw [← hg2] at hP hD
    refine lv_aload_n hx hb d_M_rewinds_36 rfl (lv_at hl 0 rfl) ?_
    refine f_get S cls_M hK hP 0 rfl 0 (by decide) fl_M_s rfl rfl d_M_rewinds_37 ?_
    refine lv_iconst (v := 3) hx hb d_M_rewinds_40 (by decide) ?_
    refine M_ld S hK hP (r := 3) (by omega) rfl d_M_rewinds_41 ?_
    exact hret _ _ _ _ _ _ d_M_rewinds_42 rfl (by subst hg2; first | (simp only [m_rew, c_20, ↓reduceIte]; done) | (simp only [m_rew, c_20, ↓reduceIte]; rfl) | rfl) (by subst hg2; first | (simp only [m_rew, c_20, ↓reduceIte]; done) | (simp only [m_rew, c_20, ↓reduceIte]; rfl) | rfl) hP hD hS
set_option maxHeartbeats 4000000 in
set_option maxRecDepth 100000 in
theorem c_M_readFault (l : Launch) (D : va_G) (ca : Nat → ClassId) (o sa : Nat) (fs : List Value) (g : Nat → Int32) (x y z : Int32) (hB : BN g): RO l y_M_readFault b_M_readFault 4 (some .int) 3 64 D ca [.ref o, .int x, .int y, .int z] (mw ca o sa fs g) (m_rf g x y z) := by
  refine RO.mk (ty := .int) rfl rfl (Nat.le_of_ble_eq_true rfl) ?_
  intro p e s m args below meth c Q S hP hK
  obtain ⟨hx, hb, hml, hown, hts⟩ := id S
  intro hret ls hl0
  have hl : lv_has ls 4 [(0, .ref o), (1, .int x), (2, .int y), (3, .int z)] := hl0
  refine lv_aload_n hx hb d_M_readFault_0 rfl (lv_at hl 0 rfl) ?_
  refine lv_iload_n hx hb d_M_readFault_1 rfl (lv_at hl 1 rfl) ?_
  refine lv_iload_n hx hb d_M_readFault_2 rfl (lv_at hl 2 rfl) ?_
  refine M_ro S (c_M_isBlock l D ca o sa fs g x y hB) k_M_78 rfl hP hK rfl rfl hl.1 ⟨Nat.le_of_ble_eq_true rfl, Nat.le_of_ble_eq_true rfl⟩ ⟨Nat.zero_le _, Nat.zero_le _⟩ (Nat.le_of_ble_eq_true rfl) d_M_readFault_3 ?_
  refine lv_if_ne (tgt := 13) hx hb d_M_readFault_6 (by decide) (fun c_6 => ?_) (fun c_6 => ?_)
  · refine lv_iload_n hx hb d_M_readFault_13 rfl (lv_at hl 3 rfl) ?_
    refine lv_iconst (v := 0) hx hb d_M_readFault_14 (by decide) ?_
    refine lv_iconst (v := 1) hx hb d_M_readFault_15 (by decide) ?_
    refine RO.callS S (c_M_in l D ca  z 0 1 ) k_M_26 hK rfl rfl hl.1 ⟨Nat.le_of_ble_eq_true rfl, Nat.le_of_ble_eq_true rfl⟩ ⟨Nat.zero_le _, Nat.zero_le _⟩ (Nat.le_of_ble_eq_true rfl) d_M_readFault_16 ?_
    refine lv_if_eq (tgt := 26) hx hb d_M_readFault_19 (by decide) (fun c_19 => ?_) (fun c_19 => ?_)
    · refine lv_bipush (v := (-2)) hx hb d_M_readFault_26 (by decide) ?_
      exact hret _ _ _ d_M_readFault_28 rfl (by first | (simp only [m_rf, c_6, c_19, ↓reduceIte]; done) | (simp only [m_rf, c_6, c_19, ↓reduceIte]; rfl) | rfl)
    · refine lv_iconst (v := 0) hx hb d_M_readFault_22 (by decide) ?_
      refine lv_goto (tgt := 28) hx hb d_M_readFault_23 (by decide) ?_
      exact hret _ _ _ d_M_readFault_28 rfl (by first | (simp only [m_rf, c_6, c_19, ↓reduceIte]; done) | (simp only [m_rf, c_6, c_19, ↓reduceIte]; rfl) | rfl)
  · refine lv_iconst (v := (-1)) hx hb d_M_readFault_9 (by decide) ?_
    refine lv_goto (tgt := 28) hx hb d_M_readFault_10 (by decide) ?_
    exact hret _ _ _ d_M_readFault_28 rfl (by first | (simp only [m_rf, c_6, ↓reduceIte]; done) | (simp only [m_rf, c_6, ↓reduceIte]; rfl) | rfl)
set_option maxHeartbeats 4000000 in
set_option maxRecDepth 100000 in
theorem c_M_reads (l : Launch) (D : va_G) (ca : Nat → ClassId) (o sa : Nat) (fs : List Value) (g : Nat → Int32) (f b w : Nat) (hf : f < 2) (hb20 : b < 20) (hw : w < 2): MI l y_M_reads b_M_reads 4 (some .int) 6 137 D ca [.ref o, .int (nI f), .int (nI b), .int (nI w)] (mw ca o sa fs g) ((m_rv g f b w).1) (mw ca o sa fs ((m_rv g f b w).2)) := by
  refine MI.mk (ty := .int) rfl rfl (Nat.le_of_ble_eq_true rfl) ?_
  intro p e s m args below meth c Q A S hA hP hD hK
  obtain ⟨hx, hb, hml, hown, hts⟩ := id S
  intro hret ls hl0 hS
  have hl : lv_has ls 4 [(0, .ref o), (1, .int (nI f)), (2, .int (nI b)), (3, .int (nI w))] := hl0
  refine lv_aload_n hx hb d_M_reads_0 rfl (lv_at hl 0 rfl) ?_
  refine lv_aload_n hx hb d_M_reads_1 rfl (lv_at hl 0 rfl) ?_
  refine lv_iload_n hx hb d_M_reads_2 rfl (lv_at hl 1 rfl) ?_
  refine lv_iload_n hx hb d_M_reads_3 rfl (lv_at hl 2 rfl) ?_
  refine lv_iload_n hx hb d_M_reads_4 rfl (lv_at hl 3 rfl) ?_
  refine lv_iconst (v := 1) hx hb d_M_reads_5 (by decide) ?_
  refine M_ro S (c_M_endOf l D ca o sa fs g f b w 1 (by omega) (by omega) (by omega) (by omega)) k_M_66 rfl hP hK rfl rfl hl.1 ⟨Nat.le_of_ble_eq_true rfl, Nat.le_of_ble_eq_true rfl⟩ ⟨Nat.zero_le _, Nat.zero_le _⟩ (Nat.le_of_ble_eq_true rfl) d_M_reads_6 ?_
  refine lv_tope (z := sr g f b w) (eo_1 hf hw) ?_
  refine M_mv S (c_M_travel l D ca o sa fs g (sr g f b w) ) k_M_74 rfl hP hD hS hA hK rfl rfl hl.1 ⟨Nat.le_of_ble_eq_true rfl, Nat.le_of_ble_eq_true rfl⟩ ⟨Nat.zero_le _, Nat.zero_le _⟩ (Nat.le_of_ble_eq_true rfl) d_M_reads_9 (fun H locs hP hD hS => ?_)
  obtain ⟨g1, hg1⟩ : ∃ z : Nat → Int32, z = tvm g (sr g f b w) := ⟨_, rfl⟩
  rw [← hg1] at hP hD
  refine lv_aload_n hx hb d_M_reads_12 rfl (lv_at hl 0 rfl) ?_
  refine lv_aload_n hx hb d_M_reads_13 rfl (lv_at hl 0 rfl) ?_
  refine lv_iload_n hx hb d_M_reads_14 rfl (lv_at hl 1 rfl) ?_
  refine lv_iload_n hx hb d_M_reads_15 rfl (lv_at hl 2 rfl) ?_
  refine lv_iload_n hx hb d_M_reads_16 rfl (lv_at hl 3 rfl) ?_
  refine lv_iconst (v := 0) hx hb d_M_reads_17 (by decide) ?_
  refine M_ro S (c_M_endOf l D ca o sa fs g1 f b w 0 (by omega) (by omega) (by omega) (by omega)) k_M_66 rfl hP hK rfl rfl hl.1 ⟨Nat.le_of_ble_eq_true rfl, Nat.le_of_ble_eq_true rfl⟩ ⟨Nat.zero_le _, Nat.zero_le _⟩ (Nat.le_of_ble_eq_true rfl) d_M_reads_18 ?_
  refine lv_tope (z := sr g1 f b (1 - w)) (eo_0 hf hw) ?_
  refine M_mv S (c_M_travel l D ca o sa fs g1 (sr g1 f b (1 - w)) ) k_M_74 rfl hP hD hS hA hK rfl rfl hl.1 ⟨Nat.le_of_ble_eq_true rfl, Nat.le_of_ble_eq_true rfl⟩ ⟨Nat.zero_le _, Nat.zero_le _⟩ (Nat.le_of_ble_eq_true rfl) d_M_reads_21 (fun H locs hP hD hS => ?_)
  obtain ⟨g2, hg2⟩ : ∃ z : Nat → Int32, z = tvm g1 (sr g1 f b (1 - w)) := ⟨_, rfl⟩
  rw [← hg2] at hP hD
  refine lv_aload_n hx hb d_M_reads_24 rfl (lv_at hl 0 rfl) ?_
  refine f_get S cls_M hK hP 0 rfl 0 (by decide) fl_M_s rfl rfl d_M_reads_25 ?_
  refine lv_iload_n hx hb d_M_reads_28 rfl (lv_at hl 1 rfl) ?_
  refine lv_iload_n hx hb d_M_reads_29 rfl (lv_at hl 2 rfl) ?_
  refine lv_iconst (v := 3) hx hb d_M_reads_30 (by decide) ?_
  refine RO.callS S (c_M_of l D ca  f b 3 ) k_M_38 hK rfl rfl hl.1 ⟨Nat.le_of_ble_eq_true rfl, Nat.le_of_ble_eq_true rfl⟩ ⟨Nat.zero_le _, Nat.zero_le _⟩ (Nat.le_of_ble_eq_true rfl) d_M_reads_31 ?_
  refine lv_dup2_11 hx hb d_M_reads_34 rfl rfl ?_
  refine M_ld S hK hP (r := 10 + 4 * (f * 20 + b) + 3) (by omega) rfl d_M_reads_35 ?_
  refine lv_iconst (v := 1) hx hb d_M_reads_36 (by decide) ?_
  refine lv_iadd hx hb d_M_reads_37 ?_
  refine M_st S hK hP hD hS (r := 10 + 4 * (f * 20 + b) + 3) (by omega) rfl d_M_reads_38 (fun H locs hP hD hS => ?_)
  obtain ⟨g3, hg3⟩ : ∃ z : Nat → Int32, z = upd g2 (10 + 4 * (f * 20 + b) + 3) ((g2 (10 + 4 * (f * 20 + b) + 3)) + 1) := ⟨_, rfl⟩
  rw [← hg3] at hP hD
  refine lv_aload_n hx hb d_M_reads_39 rfl (lv_at hl 0 rfl) ?_
  refine f_get S cls_M hK hP 0 rfl 0 (by decide) fl_M_s rfl rfl d_M_reads_40 ?_
  refine lv_bipush (v := 7) hx hb d_M_reads_43 (by decide) ?_
  refine lv_dup2_11 hx hb d_M_reads_45 rfl rfl ?_
  refine M_ld S hK hP (r := 7) (by omega) rfl d_M_reads_46 ?_
  refine lv_iconst (v := 1) hx hb d_M_reads_47 (by decide) ?_
  refine lv_iadd hx hb d_M_reads_48 ?_
  refine M_st S hK hP hD hS (r := 7) (by omega) rfl d_M_reads_49 (fun H locs hP hD hS => ?_)
  obtain ⟨g4, hg4⟩ : ∃ z : Nat → Int32, z = upd g3 7 ((g3 7) + 1) := ⟨_, rfl⟩
  rw [← hg4] at hP hD
  refine lv_aload_n hx hb d_M_reads_50 rfl (lv_at hl 0 rfl) ?_
  refine f_get S cls_M hK hP 0 rfl 0 (by decide) fl_M_s rfl rfl d_M_reads_51 ?_
  refine lv_iload_n hx hb d_M_reads_54 rfl (lv_at hl 1 rfl) ?_
  refine lv_iload_n hx hb d_M_reads_55 rfl (lv_at hl 2 rfl) ?_
  refine lv_iconst (v := 1) hx hb d_M_reads_56 (by decide) ?_
  refine RO.callS S (c_M_of l D ca  f b 1 ) k_M_38 hK rfl rfl hl.1 ⟨Nat.le_of_ble_eq_true rfl, Nat.le_of_ble_eq_true rfl⟩ ⟨Nat.zero_le _, Nat.zero_le _⟩ (Nat.le_of_ble_eq_true rfl) d_M_reads_57 ?_
  refine M_ld S hK hP (r := 10 + 4 * (f * 20 + b) + 1) (by omega) rfl d_M_reads_60 ?_
  refine lv_iload_n hx hb d_M_reads_61 rfl (lv_at hl 2 rfl) ?_
  refine lv_iadd hx hb d_M_reads_62 ?_
  refine lv_iload_n hx hb d_M_reads_63 rfl (lv_at hl 3 rfl) ?_
  refine lv_iadd hx hb d_M_reads_64 ?_
  refine lv_bipush (v := 10) hx hb d_M_reads_65 (by decide) ?_
  refine lv_irem hx hb d_M_reads_67 (by decide) ?_
  exact hret _ _ _ _ _ _ d_M_reads_68 rfl (by subst hg1 hg2 hg3 hg4; first | (simp only [m_rv, rem10, ↓reduceIte]; done) | (simp only [m_rv, rem10, ↓reduceIte]; rfl) | rfl) (by subst hg1 hg2 hg3 hg4; first | (simp only [m_rv, rem10, ↓reduceIte]; done) | (simp only [m_rv, rem10, ↓reduceIte]; rfl) | rfl) hP hD hS
set_option maxHeartbeats 4000000 in
set_option maxRecDepth 100000 in
theorem c_M_within (l : Launch) (D : va_G) (ca : Nat → ClassId) (o sa : Nat) (fs : List Value) (g : Nat → Int32) (x y : Int32) (hB : BN g): RO l y_M_within b_M_within 7 (some .int) 5 112 D ca [.ref o, .int x, .int y] (mw ca o sa fs g) (m_wi g x y) := by
  refine RO.mk (ty := .int) rfl rfl (Nat.le_of_ble_eq_true rfl) ?_
  intro p e s m args below meth c Q S hP hK
  obtain ⟨hx, hb, hml, hown, hts⟩ := id S
  intro hret ls hl0
  have hl : lv_has ls 7 [(0, .ref o), (1, .int x), (2, .int y)] := hl0
  refine lv_iload_n hx hb d_M_within_0 rfl (lv_at hl 1 rfl) ?_
  refine lv_aload_n hx hb d_M_within_1 rfl (lv_at hl 0 rfl) ?_
  refine lv_iconst (v := 0) hx hb d_M_within_2 (by decide) ?_
  refine M_ro S (c_M_end l D ca o sa fs g 0 hB (by omega)) k_M_53 rfl hP hK rfl rfl hl.1 ⟨Nat.le_of_ble_eq_true rfl, Nat.le_of_ble_eq_true rfl⟩ ⟨Nat.zero_le _, Nat.zero_le _⟩ (Nat.le_of_ble_eq_true rfl) d_M_within_3 ?_
  refine lv_icmp_lt (tgt := 20) hx hb d_M_within_6 (by decide) (fun c_6 => ?_) (fun c_6 => ?_)
  · refine lv_iconst (v := 0) hx hb d_M_within_20 (by decide) ?_
    refine lv_istore_n (lv' := [(3, .int 0), (0, .ref o), (1, .int x), (2, .int y)]) hx hb d_M_within_21 rfl hl (by decide) rfl (fun ls hl => ?_)
    have hE0 : m_wi g x y = wlp g x y 40 0 := by simp only [m_wi, c_6, ↓reduceIte]
    suffices lp : ∀ (r k : Nat), 40 - k < r → k ≤ 40 → m_wi g x y = wlp g x y (40 - k) k → ∀ ls : Array Slot, lv_has ls 7 [(3, .int (nI k)), (0, .ref o), (1, .int x), (2, .int y)] → W p l e (rm 5 112 0 0) s m args below meth c s.heap [] 0 0 Q (F0 m 22 ls []) from lp 41 0 (by omega) (by omega) hE0 _ (lv_sub hl [0, 1, 2, 3] rfl)
    intro r
    induction r with
    | zero => intro k hk; omega
    | succ r ih =>
      intro k hk hkn hE ls hl
      refine lv_iload_n hx hb d_M_within_22 rfl (lv_at hl 0 rfl) ?_
      refine lv_bipush (v := 40) hx hb d_M_within_23 (by decide) ?_
      refine lv_icmp_ge (tgt := 108) hx hb d_M_within_25 (by decide) (fun c_25 => ?_) (fun c_25 => ?_)
      · have e_25 : 40 ≤ k := le_of_nI (by omega) (by omega) (show nI 40 ≤ nI k from c_25)
        obtain rfl : k = 40 := by omega
        refine lv_bipush (v := (-6)) hx hb d_M_within_108 (by decide) ?_
        exact hret _ _ _ d_M_within_110 rfl (by rw [hE]; rfl)
      · have e_25 : k < 40 := nle_lt (by omega) (by omega) (show ¬ nI 40 ≤ nI k from c_25)
        have hf : k / 20 < 2 := by omega
        have hn := (hB (k / 20) hf).2
        have hE1 : wlp g x y (40 - k) k = wlp g x y ((40 - (k + 1)) + 1) k := by rw [show 40 - k = (40 - (k + 1)) + 1 by omega]
        refine lv_iload_n hx hb d_M_within_28 rfl (lv_at hl 0 rfl) ?_
        refine lv_bipush (v := 20) hx hb d_M_within_29 (by decide) ?_
        refine lv_idiv hx hb d_M_within_31 (by decide) ?_
        refine lv_tope (z := nI (k / 20)) (pk_div (by omega) (by decide) (by decide)) ?_
        refine lv_istore (lv' := [(4, .int (nI (k / 20))), (3, .int (nI k)), (0, .ref o), (1, .int x), (2, .int y)]) hx hb d_M_within_32 hl (by decide) rfl (fun ls hl => ?_)
        refine lv_iload_n hx hb d_M_within_34 rfl (lv_at hl 1 rfl) ?_
        refine lv_bipush (v := 20) hx hb d_M_within_35 (by decide) ?_
        refine lv_irem hx hb d_M_within_37 (by decide) ?_
        refine lv_tope (z := nI (k % 20)) (pk_rem (by omega) (by decide) (by decide)) ?_
        refine lv_istore (lv' := [(5, .int (nI (k % 20))), (4, .int (nI (k / 20))), (3, .int (nI k)), (0, .ref o), (1, .int x), (2, .int y)]) hx hb d_M_within_38 hl (by decide) rfl (fun ls hl => ?_)
        refine lv_iload hx hb d_M_within_40 (lv_at hl 0 rfl) ?_
        refine lv_aload_n hx hb d_M_within_42 rfl (lv_at hl 3 rfl) ?_
        refine f_get S cls_M hK hP 0 rfl 0 (by decide) fl_M_s rfl rfl d_M_within_43 ?_
        refine lv_bipush (v := 8) hx hb d_M_within_46 (by decide) ?_
        refine lv_iload hx hb d_M_within_48 (lv_at hl 1 rfl) ?_
        refine lv_iadd hx hb d_M_within_50 ?_
        refine lv_tope (z := nI (8 + (k / 20))) (nI_add 8 (k / 20)) ?_
        refine M_ld S hK hP (r := 8 + (k / 20)) (by omega) rfl d_M_within_51 ?_
        refine lv_tope (z := nI (bn g (k / 20))) ((hB (k / 20) hf).1) ?_
        refine lv_icmp_ge (tgt := 102) hx hb d_M_within_52 (by decide) (fun c_52 => ?_) (fun c_52 => ?_)
        · have hE2 : m_wi g x y = wlp g x y (40 - (k + 1)) (k + 1) := by
            rw [hE, hE1]
            simp only [wlp, c_52, ↓reduceIte]
          refine lv_iinc (v := nI (k + 1)) (lv' := [(3, .int (nI (k + 1))), (5, .int (nI (k % 20))), (4, .int (nI (k / 20))), (0, .ref o), (1, .int x), (2, .int y)]) hx hb d_M_within_102 hl (k := 2) rfl (nI_1 k) (by decide) rfl (fun ls hl => ?_)
          refine lv_goto (tgt := 22) hx hb d_M_within_105 (by decide) ?_
          exact ih (k + 1) (by omega) (by omega) hE2 _ (lv_sub hl [0, 3, 4, 5] rfl)
        · have e_52 : k % 20 < bn g (k / 20) := nle_lt (by omega) (by omega) c_52
          refine lv_aload_n hx hb d_M_within_55 rfl (lv_at hl 3 rfl) ?_
          refine f_get S cls_M hK hP 0 rfl 0 (by decide) fl_M_s rfl rfl d_M_within_56 ?_
          refine lv_iload hx hb d_M_within_59 (lv_at hl 1 rfl) ?_
          refine lv_iload hx hb d_M_within_61 (lv_at hl 0 rfl) ?_
          refine lv_iconst (v := 2) hx hb d_M_within_63 (by decide) ?_
          refine RO.callS S (c_M_of l D ca  (k / 20) (k % 20) 2 ) k_M_38 hK rfl rfl hl.1 ⟨Nat.le_of_ble_eq_true rfl, Nat.le_of_ble_eq_true rfl⟩ ⟨Nat.zero_le _, Nat.zero_le _⟩ (Nat.le_of_ble_eq_true rfl) d_M_within_64 ?_
          refine M_ld S hK hP (r := 10 + 4 * ((k / 20) * 20 + (k % 20)) + 2) (by omega) rfl d_M_within_67 ?_
          refine lv_istore (lv' := [(6, .int (g (10 + 4 * ((k / 20) * 20 + (k % 20)) + 2))), (5, .int (nI (k % 20))), (4, .int (nI (k / 20))), (3, .int (nI k)), (0, .ref o), (1, .int x), (2, .int y)]) hx hb d_M_within_68 hl (by decide) rfl (fun ls hl => ?_)
          refine lv_iload_n hx hb d_M_within_70 rfl (lv_at hl 5 rfl) ?_
          refine lv_aload_n hx hb d_M_within_71 rfl (lv_at hl 4 rfl) ?_
          refine lv_iload hx hb d_M_within_72 (lv_at hl 2 rfl) ?_
          refine lv_iload hx hb d_M_within_74 (lv_at hl 1 rfl) ?_
          refine M_ro S (c_M_lower l D ca o sa fs g (k / 20) (k % 20) (by omega) (by omega)) k_M_56 rfl hP hK rfl rfl hl.1 ⟨Nat.le_of_ble_eq_true rfl, Nat.le_of_ble_eq_true rfl⟩ ⟨Nat.zero_le _, Nat.zero_le _⟩ (Nat.le_of_ble_eq_true rfl) d_M_within_76 ?_
          refine lv_iload hx hb d_M_within_79 (lv_at hl 0 rfl) ?_
          refine lv_iadd hx hb d_M_within_81 ?_
          refine lv_tope (z := fd g (k / 20) (k % 20)) (rfl) ?_
          refine lv_icmp_lt (tgt := 102) hx hb d_M_within_82 (by decide) (fun c_82 => ?_) (fun c_82 => ?_)
          · have hE2 : m_wi g x y = wlp g x y (40 - (k + 1)) (k + 1) := by
              rw [hE, hE1]
              simp only [wlp, c_52, c_82, ↓reduceIte]
            refine lv_iinc (v := nI (k + 1)) (lv' := [(3, .int (nI (k + 1))), (6, .int (g (10 + 4 * ((k / 20) * 20 + (k % 20)) + 2))), (5, .int (nI (k % 20))), (4, .int (nI (k / 20))), (0, .ref o), (1, .int x), (2, .int y)]) hx hb d_M_within_102 hl (k := 3) rfl (nI_1 k) (by decide) rfl (fun ls hl => ?_)
            refine lv_goto (tgt := 22) hx hb d_M_within_105 (by decide) ?_
            exact ih (k + 1) (by omega) (by omega) hE2 _ (lv_sub hl [0, 4, 5, 6] rfl)
          · refine lv_iload_n hx hb d_M_within_85 rfl (lv_at hl 6 rfl) ?_
            refine lv_aload_n hx hb d_M_within_86 rfl (lv_at hl 4 rfl) ?_
            refine lv_iload hx hb d_M_within_87 (lv_at hl 2 rfl) ?_
            refine lv_iload hx hb d_M_within_89 (lv_at hl 1 rfl) ?_
            refine M_ro S (c_M_upper l D ca o sa fs g (k / 20) (k % 20) (by omega) (by omega)) k_M_63 rfl hP hK rfl rfl hl.1 ⟨Nat.le_of_ble_eq_true rfl, Nat.le_of_ble_eq_true rfl⟩ ⟨Nat.zero_le _, Nat.zero_le _⟩ (Nat.le_of_ble_eq_true rfl) d_M_within_91 ?_
            refine lv_iload hx hb d_M_within_94 (lv_at hl 0 rfl) ?_
            refine lv_isub hx hb d_M_within_96 ?_
            refine lv_icmp_ge (tgt := 102) hx hb d_M_within_97 (by decide) (fun c_97 => ?_) (fun c_97 => ?_)
            · have hE2 : m_wi g x y = wlp g x y (40 - (k + 1)) (k + 1) := by
                rw [hE, hE1]
                simp only [wlp, c_52, c_82, c_97, ↓reduceIte]
              refine lv_iinc (v := nI (k + 1)) (lv' := [(3, .int (nI (k + 1))), (6, .int (g (10 + 4 * ((k / 20) * 20 + (k % 20)) + 2))), (5, .int (nI (k % 20))), (4, .int (nI (k / 20))), (0, .ref o), (1, .int x), (2, .int y)]) hx hb d_M_within_102 hl (k := 3) rfl (nI_1 k) (by decide) rfl (fun ls hl => ?_)
              refine lv_goto (tgt := 22) hx hb d_M_within_105 (by decide) ?_
              exact ih (k + 1) (by omega) (by omega) hE2 _ (lv_sub hl [0, 4, 5, 6] rfl)
            · refine lv_iload_n hx hb d_M_within_100 rfl (lv_at hl 3 rfl) ?_
              exact hret _ _ _ d_M_within_101 rfl (by rw [hE, hE1]; simp only [wlp, c_52, c_82, c_97, ↓reduceIte])
  · refine lv_iload_n hx hb d_M_within_9 rfl (lv_at hl 2 rfl) ?_
    refine lv_aload_n hx hb d_M_within_10 rfl (lv_at hl 0 rfl) ?_
    refine lv_iconst (v := 1) hx hb d_M_within_11 (by decide) ?_
    refine M_ro S (c_M_end l D ca o sa fs g 1 hB (by omega)) k_M_53 rfl hP hK rfl rfl hl.1 ⟨Nat.le_of_ble_eq_true rfl, Nat.le_of_ble_eq_true rfl⟩ ⟨Nat.zero_le _, Nat.zero_le _⟩ (Nat.le_of_ble_eq_true rfl) d_M_within_12 ?_
    refine lv_icmp_ge (tgt := 20) hx hb d_M_within_15 (by decide) (fun c_15 => ?_) (fun c_15 => ?_)
    · refine lv_iconst (v := 0) hx hb d_M_within_20 (by decide) ?_
      refine lv_istore_n (lv' := [(3, .int 0), (0, .ref o), (1, .int x), (2, .int y)]) hx hb d_M_within_21 rfl hl (by decide) rfl (fun ls hl => ?_)
      have hE0 : m_wi g x y = wlp g x y 40 0 := by simp only [m_wi, c_6, c_15, ↓reduceIte]
      suffices lp : ∀ (r k : Nat), 40 - k < r → k ≤ 40 → m_wi g x y = wlp g x y (40 - k) k → ∀ ls : Array Slot, lv_has ls 7 [(3, .int (nI k)), (0, .ref o), (1, .int x), (2, .int y)] → W p l e (rm 5 112 0 0) s m args below meth c s.heap [] 0 0 Q (F0 m 22 ls []) from lp 41 0 (by omega) (by omega) hE0 _ (lv_sub hl [0, 1, 2, 3] rfl)
      intro r
      induction r with
      | zero => intro k hk; omega
      | succ r ih =>
        intro k hk hkn hE ls hl
        refine lv_iload_n hx hb d_M_within_22 rfl (lv_at hl 0 rfl) ?_
        refine lv_bipush (v := 40) hx hb d_M_within_23 (by decide) ?_
        refine lv_icmp_ge (tgt := 108) hx hb d_M_within_25 (by decide) (fun c_25 => ?_) (fun c_25 => ?_)
        · have e_25 : 40 ≤ k := le_of_nI (by omega) (by omega) (show nI 40 ≤ nI k from c_25)
          obtain rfl : k = 40 := by omega
          refine lv_bipush (v := (-6)) hx hb d_M_within_108 (by decide) ?_
          exact hret _ _ _ d_M_within_110 rfl (by rw [hE]; rfl)
        · have e_25 : k < 40 := nle_lt (by omega) (by omega) (show ¬ nI 40 ≤ nI k from c_25)
          have hf : k / 20 < 2 := by omega
          have hn := (hB (k / 20) hf).2
          have hE1 : wlp g x y (40 - k) k = wlp g x y ((40 - (k + 1)) + 1) k := by rw [show 40 - k = (40 - (k + 1)) + 1 by omega]
          refine lv_iload_n hx hb d_M_within_28 rfl (lv_at hl 0 rfl) ?_
          refine lv_bipush (v := 20) hx hb d_M_within_29 (by decide) ?_
          refine lv_idiv hx hb d_M_within_31 (by decide) ?_
          refine lv_tope (z := nI (k / 20)) (pk_div (by omega) (by decide) (by decide)) ?_
          refine lv_istore (lv' := [(4, .int (nI (k / 20))), (3, .int (nI k)), (0, .ref o), (1, .int x), (2, .int y)]) hx hb d_M_within_32 hl (by decide) rfl (fun ls hl => ?_)
          refine lv_iload_n hx hb d_M_within_34 rfl (lv_at hl 1 rfl) ?_
          refine lv_bipush (v := 20) hx hb d_M_within_35 (by decide) ?_
          refine lv_irem hx hb d_M_within_37 (by decide) ?_
          refine lv_tope (z := nI (k % 20)) (pk_rem (by omega) (by decide) (by decide)) ?_
          refine lv_istore (lv' := [(5, .int (nI (k % 20))), (4, .int (nI (k / 20))), (3, .int (nI k)), (0, .ref o), (1, .int x), (2, .int y)]) hx hb d_M_within_38 hl (by decide) rfl (fun ls hl => ?_)
          refine lv_iload hx hb d_M_within_40 (lv_at hl 0 rfl) ?_
          refine lv_aload_n hx hb d_M_within_42 rfl (lv_at hl 3 rfl) ?_
          refine f_get S cls_M hK hP 0 rfl 0 (by decide) fl_M_s rfl rfl d_M_within_43 ?_
          refine lv_bipush (v := 8) hx hb d_M_within_46 (by decide) ?_
          refine lv_iload hx hb d_M_within_48 (lv_at hl 1 rfl) ?_
          refine lv_iadd hx hb d_M_within_50 ?_
          refine lv_tope (z := nI (8 + (k / 20))) (nI_add 8 (k / 20)) ?_
          refine M_ld S hK hP (r := 8 + (k / 20)) (by omega) rfl d_M_within_51 ?_
          refine lv_tope (z := nI (bn g (k / 20))) ((hB (k / 20) hf).1) ?_
          refine lv_icmp_ge (tgt := 102) hx hb d_M_within_52 (by decide) (fun c_52 => ?_) (fun c_52 => ?_)
          · have hE2 : m_wi g x y = wlp g x y (40 - (k + 1)) (k + 1) := by
              rw [hE, hE1]
              simp only [wlp, c_52, ↓reduceIte]
            refine lv_iinc (v := nI (k + 1)) (lv' := [(3, .int (nI (k + 1))), (5, .int (nI (k % 20))), (4, .int (nI (k / 20))), (0, .ref o), (1, .int x), (2, .int y)]) hx hb d_M_within_102 hl (k := 2) rfl (nI_1 k) (by decide) rfl (fun ls hl => ?_)
            refine lv_goto (tgt := 22) hx hb d_M_within_105 (by decide) ?_
            exact ih (k + 1) (by omega) (by omega) hE2 _ (lv_sub hl [0, 3, 4, 5] rfl)
          · have e_52 : k % 20 < bn g (k / 20) := nle_lt (by omega) (by omega) c_52
            refine lv_aload_n hx hb d_M_within_55 rfl (lv_at hl 3 rfl) ?_
            refine f_get S cls_M hK hP 0 rfl 0 (by decide) fl_M_s rfl rfl d_M_within_56 ?_
            refine lv_iload hx hb d_M_within_59 (lv_at hl 1 rfl) ?_
            refine lv_iload hx hb d_M_within_61 (lv_at hl 0 rfl) ?_
            refine lv_iconst (v := 2) hx hb d_M_within_63 (by decide) ?_
            refine RO.callS S (c_M_of l D ca  (k / 20) (k % 20) 2 ) k_M_38 hK rfl rfl hl.1 ⟨Nat.le_of_ble_eq_true rfl, Nat.le_of_ble_eq_true rfl⟩ ⟨Nat.zero_le _, Nat.zero_le _⟩ (Nat.le_of_ble_eq_true rfl) d_M_within_64 ?_
            refine M_ld S hK hP (r := 10 + 4 * ((k / 20) * 20 + (k % 20)) + 2) (by omega) rfl d_M_within_67 ?_
            refine lv_istore (lv' := [(6, .int (g (10 + 4 * ((k / 20) * 20 + (k % 20)) + 2))), (5, .int (nI (k % 20))), (4, .int (nI (k / 20))), (3, .int (nI k)), (0, .ref o), (1, .int x), (2, .int y)]) hx hb d_M_within_68 hl (by decide) rfl (fun ls hl => ?_)
            refine lv_iload_n hx hb d_M_within_70 rfl (lv_at hl 5 rfl) ?_
            refine lv_aload_n hx hb d_M_within_71 rfl (lv_at hl 4 rfl) ?_
            refine lv_iload hx hb d_M_within_72 (lv_at hl 2 rfl) ?_
            refine lv_iload hx hb d_M_within_74 (lv_at hl 1 rfl) ?_
            refine M_ro S (c_M_lower l D ca o sa fs g (k / 20) (k % 20) (by omega) (by omega)) k_M_56 rfl hP hK rfl rfl hl.1 ⟨Nat.le_of_ble_eq_true rfl, Nat.le_of_ble_eq_true rfl⟩ ⟨Nat.zero_le _, Nat.zero_le _⟩ (Nat.le_of_ble_eq_true rfl) d_M_within_76 ?_
            refine lv_iload hx hb d_M_within_79 (lv_at hl 0 rfl) ?_
            refine lv_iadd hx hb d_M_within_81 ?_
            refine lv_tope (z := fd g (k / 20) (k % 20)) (rfl) ?_
            refine lv_icmp_lt (tgt := 102) hx hb d_M_within_82 (by decide) (fun c_82 => ?_) (fun c_82 => ?_)
            · have hE2 : m_wi g x y = wlp g x y (40 - (k + 1)) (k + 1) := by
                rw [hE, hE1]
                simp only [wlp, c_52, c_82, ↓reduceIte]
              refine lv_iinc (v := nI (k + 1)) (lv' := [(3, .int (nI (k + 1))), (6, .int (g (10 + 4 * ((k / 20) * 20 + (k % 20)) + 2))), (5, .int (nI (k % 20))), (4, .int (nI (k / 20))), (0, .ref o), (1, .int x), (2, .int y)]) hx hb d_M_within_102 hl (k := 3) rfl (nI_1 k) (by decide) rfl (fun ls hl => ?_)
              refine lv_goto (tgt := 22) hx hb d_M_within_105 (by decide) ?_
              exact ih (k + 1) (by omega) (by omega) hE2 _ (lv_sub hl [0, 4, 5, 6] rfl)
            · refine lv_iload_n hx hb d_M_within_85 rfl (lv_at hl 6 rfl) ?_
              refine lv_aload_n hx hb d_M_within_86 rfl (lv_at hl 4 rfl) ?_
              refine lv_iload hx hb d_M_within_87 (lv_at hl 2 rfl) ?_
              refine lv_iload hx hb d_M_within_89 (lv_at hl 1 rfl) ?_
              refine M_ro S (c_M_upper l D ca o sa fs g (k / 20) (k % 20) (by omega) (by omega)) k_M_63 rfl hP hK rfl rfl hl.1 ⟨Nat.le_of_ble_eq_true rfl, Nat.le_of_ble_eq_true rfl⟩ ⟨Nat.zero_le _, Nat.zero_le _⟩ (Nat.le_of_ble_eq_true rfl) d_M_within_91 ?_
              refine lv_iload hx hb d_M_within_94 (lv_at hl 0 rfl) ?_
              refine lv_isub hx hb d_M_within_96 ?_
              refine lv_icmp_ge (tgt := 102) hx hb d_M_within_97 (by decide) (fun c_97 => ?_) (fun c_97 => ?_)
              · have hE2 : m_wi g x y = wlp g x y (40 - (k + 1)) (k + 1) := by
                  rw [hE, hE1]
                  simp only [wlp, c_52, c_82, c_97, ↓reduceIte]
                refine lv_iinc (v := nI (k + 1)) (lv' := [(3, .int (nI (k + 1))), (6, .int (g (10 + 4 * ((k / 20) * 20 + (k % 20)) + 2))), (5, .int (nI (k % 20))), (4, .int (nI (k / 20))), (0, .ref o), (1, .int x), (2, .int y)]) hx hb d_M_within_102 hl (k := 3) rfl (nI_1 k) (by decide) rfl (fun ls hl => ?_)
                refine lv_goto (tgt := 22) hx hb d_M_within_105 (by decide) ?_
                exact ih (k + 1) (by omega) (by omega) hE2 _ (lv_sub hl [0, 4, 5, 6] rfl)
              · refine lv_iload_n hx hb d_M_within_100 rfl (lv_at hl 3 rfl) ?_
                exact hret _ _ _ d_M_within_101 rfl (by rw [hE, hE1]; simp only [wlp, c_52, c_82, c_97, ↓reduceIte])
    · refine lv_iconst (v := (-1)) hx hb d_M_within_18 (by decide) ?_
      exact hret _ _ _ d_M_within_19 rfl (by first | (simp only [m_wi, c_6, c_15, ↓reduceIte]; done) | (simp only [m_wi, c_6, c_15, ↓reduceIte]; rfl) | rfl)
set_option maxHeartbeats 4000000 in
set_option maxRecDepth 100000 in
theorem c_M_sum (l : Launch) (D : va_G) (ca : Nat → ClassId) (o sa : Nat) (fs : List Value) (g : Nat → Int32) (f k : Nat) (hB : BN g) (hf : f < 2) (hk : k < 4): RO l y_M_sum b_M_sum 5 (some .int) 1 22 D ca [.ref o, .int (nI f), .int (nI k)] (mw ca o sa fs g) (tot g k f (bn g f)) := by
  refine RO.mk (ty := .int) rfl rfl (Nat.le_of_ble_eq_true rfl) ?_
  intro p e s m args below meth c Q S hP hK
  obtain ⟨hx, hb, hml, hown, hts⟩ := id S
  intro hret ls hl0
  have hl : lv_has ls 5 [(0, .ref o), (1, .int (nI f)), (2, .int (nI k))] := hl0
  refine lv_iconst (v := 0) hx hb d_M_sum_0 (by decide) ?_
  refine lv_istore_n (lv' := [(3, .int 0), (0, .ref o), (1, .int (nI f)), (2, .int (nI k))]) hx hb d_M_sum_1 rfl hl (by decide) rfl (fun ls hl => ?_)
  refine lv_iconst (v := 0) hx hb d_M_sum_2 (by decide) ?_
  refine lv_istore (lv' := [(4, .int 0), (3, .int 0), (0, .ref o), (1, .int (nI f)), (2, .int (nI k))]) hx hb d_M_sum_3 hl (by decide) rfl (fun ls hl => ?_)
  have hn := (hB f hf).2
  suffices lp : ∀ (k1 i : Nat), bn g f - i < k1 → i ≤ bn g f → ∀ ls : Array Slot, lv_has ls 5 [(3, .int (tot g k f i)), (4, .int (nI i)), (0, .ref o), (1, .int (nI f)), (2, .int (nI k))] → W p l e (rm 1 22 0 0) s m args below meth c s.heap [] 0 0 Q (F0 m 5 ls []) from lp (bn g f + 1) 0 (by omega) (by omega) _ (lv_sub hl [1, 0, 2, 3, 4] rfl)
  intro k1
  induction k1 with
  | zero => intro i hi; omega
  | succ k1 ih =>
    intro i hi hin ls hl
    refine lv_iload hx hb d_M_sum_5 (lv_at hl 1 rfl) ?_
    refine lv_aload_n hx hb d_M_sum_7 rfl (lv_at hl 2 rfl) ?_
    refine f_get S cls_M hK hP 0 rfl 0 (by decide) fl_M_s rfl rfl d_M_sum_8 ?_
    refine lv_bipush (v := 8) hx hb d_M_sum_11 (by decide) ?_
    refine lv_iload_n hx hb d_M_sum_13 rfl (lv_at hl 3 rfl) ?_
    refine lv_iadd hx hb d_M_sum_14 ?_
    refine lv_tope (z := nI (8 + f)) (nI_add 8 f) ?_
    refine M_ld S hK hP (r := 8 + f) (by omega) rfl d_M_sum_15 ?_
    refine lv_tope (z := nI (bn g f)) ((hB f hf).1) ?_
    refine lv_icmp_ge (tgt := 40) hx hb d_M_sum_16 (by decide) (fun c_16 => ?_) (fun c_16 => ?_)
    · have e_8 : bn g f ≤ i := le_of_nI (by omega) (by omega) c_16
      obtain rfl : i = bn g f := by omega
      refine lv_iload_n hx hb d_M_sum_40 rfl (lv_at hl 0 rfl) ?_
      exact hret _ _ _ d_M_sum_41 rfl (by first | (simp only [c_16, ↓reduceIte]; done) | (simp only [c_16, ↓reduceIte]; rfl) | rfl)
    · have e_8 : i < bn g f := nle_lt (by omega) (by omega) c_16
      refine lv_iload_n hx hb d_M_sum_19 rfl (lv_at hl 0 rfl) ?_
      refine lv_aload_n hx hb d_M_sum_20 rfl (lv_at hl 2 rfl) ?_
      refine f_get S cls_M hK hP 0 rfl 0 (by decide) fl_M_s rfl rfl d_M_sum_21 ?_
      refine lv_iload_n hx hb d_M_sum_24 rfl (lv_at hl 3 rfl) ?_
      refine lv_iload hx hb d_M_sum_25 (lv_at hl 1 rfl) ?_
      refine lv_iload_n hx hb d_M_sum_27 rfl (lv_at hl 4 rfl) ?_
      refine RO.callS S (c_M_of l D ca  f i k ) k_M_38 hK rfl rfl hl.1 ⟨Nat.le_of_ble_eq_true rfl, Nat.le_of_ble_eq_true rfl⟩ ⟨Nat.zero_le _, Nat.zero_le _⟩ (Nat.le_of_ble_eq_true rfl) d_M_sum_28 ?_
      refine M_ld S hK hP (r := 10 + 4 * (f * 20 + i) + k) (by omega) rfl d_M_sum_31 ?_
      refine lv_iadd hx hb d_M_sum_32 ?_
      refine lv_istore_n (lv' := [(3, .int (tot g k f (i + 1))), (4, .int (nI i)), (0, .ref o), (1, .int (nI f)), (2, .int (nI k))]) hx hb d_M_sum_33 rfl hl (by decide) rfl (fun ls hl => ?_)
      refine lv_iinc (v := nI (i + 1)) (lv' := [(4, .int (nI (i + 1))), (3, .int (tot g k f (i + 1))), (0, .ref o), (1, .int (nI f)), (2, .int (nI k))]) hx hb d_M_sum_34 hl (k := 1) rfl (nI_1 i) (by decide) rfl (fun ls hl => ?_)
      refine lv_goto (tgt := 5) hx hb d_M_sum_37 (by decide) ?_
      exact ih (i + 1) (by omega) (by omega) _ (lv_sub hl [1, 0, 2, 3, 4] rfl)
set_option maxHeartbeats 4000000 in
set_option maxRecDepth 100000 in
theorem c_M_ofFile (l : Launch) (D : va_G) (ca : Nat → ClassId) (o sa : Nat) (fs : List Value) (g : Nat → Int32) (x y : Int32) (hB : BN g): RO l y_M_ofFile b_M_ofFile 3 (some .int) 5 110 D ca [.ref o, .int x, .int y] (mw ca o sa fs g) (afl g x y) := by
  refine RO.mk (ty := .int) rfl rfl (Nat.le_of_ble_eq_true rfl) ?_
  intro p e s m args below meth c Q S hP hK
  obtain ⟨hx, hb, hml, hown, hts⟩ := id S
  intro hret ls hl0
  have hl : lv_has ls 3 [(0, .ref o), (1, .int x), (2, .int y)] := hl0
  refine lv_iload_n hx hb d_M_ofFile_0 rfl (lv_at hl 1 rfl) ?_
  refine RO.callS S (c_M_isFile l D ca  x ) k_M_30 hK rfl rfl hl.1 ⟨Nat.le_of_ble_eq_true rfl, Nat.le_of_ble_eq_true rfl⟩ ⟨Nat.zero_le _, Nat.zero_le _⟩ (Nat.le_of_ble_eq_true rfl) d_M_ofFile_1 ?_
  refine lv_if_ne (tgt := 9) hx hb d_M_ofFile_4 (by decide) (fun c_4 => ?_) (fun c_4 => ?_)
  · obtain ⟨f, hf, rfl⟩ := isf_of c_4
    have hcl : (nI f).toNatClampNeg = f := nI_clamp (by omega)
    have hn20 := (hB f hf).2
    refine lv_iload_n hx hb d_M_ofFile_9 rfl (lv_at hl 2 rfl) ?_
    by_cases hsw : 0 ≤ y.toInt ∧ y.toInt ≤ 4
    · have hcs : y.toInt = 0 ∨ y.toInt = 1 ∨ y.toInt = 2 ∨ y.toInt = 3 ∨ y.toInt = 4 := by omega
      rcases hcs with hk | hk | hk | hk | hk
      · have hk2 : y = 0 := Int32.toInt_inj.mp (by rw [hk]; decide)
        subst hk2
        refine lv_tableIn (tgt := 44) (off := 34) hx hb d_M_ofFile_10 (by rw [hk]; decide) (by rw [hk]; decide) (by rw [hk]; rfl) (by decide) ?_
        refine lv_aload_n hx hb d_M_ofFile_44 rfl (lv_at hl 0 rfl) ?_
        refine f_get S cls_M hK hP 0 rfl 0 (by decide) fl_M_s rfl rfl d_M_ofFile_45 ?_
        refine lv_bipush (v := 8) hx hb d_M_ofFile_48 (by decide) ?_
        refine lv_iload_n hx hb d_M_ofFile_50 rfl (lv_at hl 1 rfl) ?_
        refine lv_iadd hx hb d_M_ofFile_51 ?_
        refine lv_tope (z := nI (8 + f)) (nI_add 8 f) ?_
        refine M_ld S hK hP (r := 8 + f) (by omega) rfl d_M_ofFile_52 ?_
        refine lv_tope (z := nI (bn g f)) ((hB f hf).1) ?_
        exact hret _ _ _ d_M_ofFile_53 rfl (by first | (simp only [afl, afv, c_4, hcl, ↓reduceIte]; done) | (simp only [afl, afv, c_4, hcl, ↓reduceIte]; rfl) | rfl)
      · have hk2 : y = 1 := Int32.toInt_inj.mp (by rw [hk]; decide)
        subst hk2
        refine lv_tableIn (tgt := 54) (off := 44) hx hb d_M_ofFile_10 (by rw [hk]; decide) (by rw [hk]; decide) (by rw [hk]; rfl) (by decide) ?_
        refine lv_aload_n hx hb d_M_ofFile_54 rfl (lv_at hl 0 rfl) ?_
        refine lv_iload_n hx hb d_M_ofFile_55 rfl (lv_at hl 1 rfl) ?_
        refine M_ro S (c_M_allFeet l D ca o sa fs g f hB (by omega)) k_M_49 rfl hP hK rfl rfl hl.1 ⟨Nat.le_of_ble_eq_true rfl, Nat.le_of_ble_eq_true rfl⟩ ⟨Nat.zero_le _, Nat.zero_le _⟩ (Nat.le_of_ble_eq_true rfl) d_M_ofFile_56 ?_
        exact hret _ _ _ d_M_ofFile_59 rfl (by first | (simp only [afl, afv, c_4, hcl, ↓reduceIte]; done) | (simp only [afl, afv, c_4, hcl, ↓reduceIte]; rfl) | rfl)
      · have hk2 : y = 2 := Int32.toInt_inj.mp (by rw [hk]; decide)
        subst hk2
        refine lv_tableIn (tgt := 60) (off := 50) hx hb d_M_ofFile_10 (by rw [hk]; decide) (by rw [hk]; decide) (by rw [hk]; rfl) (by decide) ?_
        refine lv_aload_n hx hb d_M_ofFile_60 rfl (lv_at hl 0 rfl) ?_
        refine lv_iload_n hx hb d_M_ofFile_61 rfl (lv_at hl 1 rfl) ?_
        refine lv_iconst (v := 0) hx hb d_M_ofFile_62 (by decide) ?_
        refine M_ro S (c_M_sum l D ca o sa fs g f 0 hB (by omega) (by omega)) k_M_112 rfl hP hK rfl rfl hl.1 ⟨Nat.le_of_ble_eq_true rfl, Nat.le_of_ble_eq_true rfl⟩ ⟨Nat.zero_le _, Nat.zero_le _⟩ (Nat.le_of_ble_eq_true rfl) d_M_ofFile_63 ?_
        exact hret _ _ _ d_M_ofFile_66 rfl (by first | (simp only [afl, afv, c_4, hcl, ↓reduceIte]; done) | (simp only [afl, afv, c_4, hcl, ↓reduceIte]; rfl) | rfl)
      · have hk2 : y = 3 := Int32.toInt_inj.mp (by rw [hk]; decide)
        subst hk2
        refine lv_tableIn (tgt := 67) (off := 57) hx hb d_M_ofFile_10 (by rw [hk]; decide) (by rw [hk]; decide) (by rw [hk]; rfl) (by decide) ?_
        refine lv_aload_n hx hb d_M_ofFile_67 rfl (lv_at hl 0 rfl) ?_
        refine lv_iload_n hx hb d_M_ofFile_68 rfl (lv_at hl 1 rfl) ?_
        refine M_ro S (c_M_end l D ca o sa fs g f hB (by omega)) k_M_53 rfl hP hK rfl rfl hl.1 ⟨Nat.le_of_ble_eq_true rfl, Nat.le_of_ble_eq_true rfl⟩ ⟨Nat.zero_le _, Nat.zero_le _⟩ (Nat.le_of_ble_eq_true rfl) d_M_ofFile_69 ?_
        exact hret _ _ _ d_M_ofFile_72 rfl (by first | (simp only [afl, afv, c_4, hcl, ↓reduceIte]; done) | (simp only [afl, afv, c_4, hcl, ↓reduceIte]; rfl) | rfl)
      · have hk2 : y = 4 := Int32.toInt_inj.mp (by rw [hk]; decide)
        subst hk2
        refine lv_tableIn (tgt := 73) (off := 63) hx hb d_M_ofFile_10 (by rw [hk]; decide) (by rw [hk]; decide) (by rw [hk]; rfl) (by decide) ?_
        refine lv_aload_n hx hb d_M_ofFile_73 rfl (lv_at hl 0 rfl) ?_
        refine lv_iload_n hx hb d_M_ofFile_74 rfl (lv_at hl 1 rfl) ?_
        refine lv_iconst (v := 1) hx hb d_M_ofFile_75 (by decide) ?_
        refine M_ro S (c_M_sum l D ca o sa fs g f 1 hB (by omega) (by omega)) k_M_112 rfl hP hK rfl rfl hl.1 ⟨Nat.le_of_ble_eq_true rfl, Nat.le_of_ble_eq_true rfl⟩ ⟨Nat.zero_le _, Nat.zero_le _⟩ (Nat.le_of_ble_eq_true rfl) d_M_ofFile_76 ?_
        exact hret _ _ _ d_M_ofFile_79 rfl (by first | (simp only [afl, afv, c_4, hcl, ↓reduceIte]; done) | (simp only [afl, afv, c_4, hcl, ↓reduceIte]; rfl) | rfl)
    · have hn_0 : ¬ y = 0 := fun q => hsw (by rw [q]; decide)
      have hn_1 : ¬ y = 1 := fun q => hsw (by rw [q]; decide)
      have hn_2 : ¬ y = 2 := fun q => hsw (by rw [q]; decide)
      have hn_3 : ¬ y = 3 := fun q => hsw (by rw [q]; decide)
      have hn_4 : ¬ y = 4 := fun q => hsw (by rw [q]; decide)
      refine lv_tableOut (tgt := 80) hx hb d_M_ofFile_10 (by omega) (by decide) ?_
      refine lv_bipush (v := (-2)) hx hb d_M_ofFile_80 (by decide) ?_
      exact hret _ _ _ d_M_ofFile_82 rfl (by first | (simp only [afl, afv, c_4, hcl, hn_0, hn_1, hn_2, hn_3, hn_4, ↓reduceIte]; done) | (simp only [afl, afv, c_4, hcl, hn_0, hn_1, hn_2, hn_3, hn_4, ↓reduceIte]; rfl) | rfl)
  · refine lv_iconst (v := (-1)) hx hb d_M_ofFile_7 (by decide) ?_
    exact hret _ _ _ d_M_ofFile_8 rfl (by first | (simp only [afl, afv, c_4, ↓reduceIte]; done) | (simp only [afl, afv, c_4, ↓reduceIte]; rfl) | rfl)
set_option maxHeartbeats 4000000 in
set_option maxRecDepth 100000 in
theorem c_M_ofBlock (l : Launch) (D : va_G) (ca : Nat → ClassId) (o sa : Nat) (fs : List Value) (g : Nat → Int32) (x y z : Int32) (hB : BN g): RO l y_M_ofBlock b_M_ofBlock 4 (some .int) 7 160 D ca [.ref o, .int x, .int y, .int z] (mw ca o sa fs g) (m_abl g x y z) := by
  refine RO.mk (ty := .int) rfl rfl (Nat.le_of_ble_eq_true rfl) ?_
  intro p e s m args below meth c Q S hP hK
  obtain ⟨hx, hb, hml, hown, hts⟩ := id S
  intro hret ls hl0
  have hl : lv_has ls 4 [(0, .ref o), (1, .int x), (2, .int y), (3, .int z)] := hl0
  refine lv_aload_n hx hb d_M_ofBlock_0 rfl (lv_at hl 0 rfl) ?_
  refine lv_iload_n hx hb d_M_ofBlock_1 rfl (lv_at hl 1 rfl) ?_
  refine lv_iload_n hx hb d_M_ofBlock_2 rfl (lv_at hl 2 rfl) ?_
  refine M_ro S (c_M_isBlock l D ca o sa fs g x y hB) k_M_78 rfl hP hK rfl rfl hl.1 ⟨Nat.le_of_ble_eq_true rfl, Nat.le_of_ble_eq_true rfl⟩ ⟨Nat.zero_le _, Nat.zero_le _⟩ (Nat.le_of_ble_eq_true rfl) d_M_ofBlock_3 ?_
  refine lv_if_ne (tgt := 11) hx hb d_M_ofBlock_6 (by decide) (fun c_6 => ?_) (fun c_6 => ?_)
  · obtain ⟨f, b, hf, hbn, rfl, rfl⟩ := ibk_of c_6 hB
    have hcl : (nI f).toNatClampNeg = f := nI_clamp (by omega)
    have hn20 := (hB f hf).2
    have hcb : (nI b).toNatClampNeg = b := nI_clamp (by omega)
    refine lv_iload_n hx hb d_M_ofBlock_11 rfl (lv_at hl 3 rfl) ?_
    by_cases hsw : 0 ≤ z.toInt ∧ z.toInt ≤ 7
    · have hcs : z.toInt = 0 ∨ z.toInt = 1 ∨ z.toInt = 2 ∨ z.toInt = 3 ∨ z.toInt = 4 ∨ z.toInt = 5 ∨ z.toInt = 6 ∨ z.toInt = 7 := by omega
      rcases hcs with hk | hk | hk | hk | hk | hk | hk | hk
      · have hk2 : z = 0 := Int32.toInt_inj.mp (by rw [hk]; decide)
        subst hk2
        refine lv_tableIn (tgt := 60) (off := 48) hx hb d_M_ofBlock_12 (by rw [hk]; decide) (by rw [hk]; decide) (by rw [hk]; rfl) (by decide) ?_
        refine lv_aload_n hx hb d_M_ofBlock_60 rfl (lv_at hl 0 rfl) ?_
        refine f_get S cls_M hK hP 0 rfl 0 (by decide) fl_M_s rfl rfl d_M_ofBlock_61 ?_
        refine lv_iload_n hx hb d_M_ofBlock_64 rfl (lv_at hl 1 rfl) ?_
        refine lv_iload_n hx hb d_M_ofBlock_65 rfl (lv_at hl 2 rfl) ?_
        refine lv_iload_n hx hb d_M_ofBlock_66 rfl (lv_at hl 3 rfl) ?_
        refine RO.callS S (c_M_of l D ca  f b 0 ) k_M_38 hK rfl rfl hl.1 ⟨Nat.le_of_ble_eq_true rfl, Nat.le_of_ble_eq_true rfl⟩ ⟨Nat.zero_le _, Nat.zero_le _⟩ (Nat.le_of_ble_eq_true rfl) d_M_ofBlock_67 ?_
        refine M_ld S hK hP (r := 10 + 4 * (f * 20 + b) + 0) (by omega) rfl d_M_ofBlock_70 ?_
        exact hret _ _ _ d_M_ofBlock_71 rfl (by first | (simp only [m_abl, m_abv, c_6, hcl, hcb, ↓reduceIte]; done) | (simp only [m_abl, m_abv, c_6, hcl, hcb, ↓reduceIte]; rfl) | rfl)
      · have hk2 : z = 1 := Int32.toInt_inj.mp (by rw [hk]; decide)
        subst hk2
        refine lv_tableIn (tgt := 60) (off := 48) hx hb d_M_ofBlock_12 (by rw [hk]; decide) (by rw [hk]; decide) (by rw [hk]; rfl) (by decide) ?_
        refine lv_aload_n hx hb d_M_ofBlock_60 rfl (lv_at hl 0 rfl) ?_
        refine f_get S cls_M hK hP 0 rfl 0 (by decide) fl_M_s rfl rfl d_M_ofBlock_61 ?_
        refine lv_iload_n hx hb d_M_ofBlock_64 rfl (lv_at hl 1 rfl) ?_
        refine lv_iload_n hx hb d_M_ofBlock_65 rfl (lv_at hl 2 rfl) ?_
        refine lv_iload_n hx hb d_M_ofBlock_66 rfl (lv_at hl 3 rfl) ?_
        refine RO.callS S (c_M_of l D ca  f b 1 ) k_M_38 hK rfl rfl hl.1 ⟨Nat.le_of_ble_eq_true rfl, Nat.le_of_ble_eq_true rfl⟩ ⟨Nat.zero_le _, Nat.zero_le _⟩ (Nat.le_of_ble_eq_true rfl) d_M_ofBlock_67 ?_
        refine M_ld S hK hP (r := 10 + 4 * (f * 20 + b) + 1) (by omega) rfl d_M_ofBlock_70 ?_
        exact hret _ _ _ d_M_ofBlock_71 rfl (by first | (simp only [m_abl, m_abv, c_6, hcl, hcb, ↓reduceIte]; done) | (simp only [m_abl, m_abv, c_6, hcl, hcb, ↓reduceIte]; rfl) | rfl)
      · have hk2 : z = 2 := Int32.toInt_inj.mp (by rw [hk]; decide)
        subst hk2
        refine lv_tableIn (tgt := 72) (off := 60) hx hb d_M_ofBlock_12 (by rw [hk]; decide) (by rw [hk]; decide) (by rw [hk]; rfl) (by decide) ?_
        refine lv_aload_n hx hb d_M_ofBlock_72 rfl (lv_at hl 0 rfl) ?_
        refine lv_iload_n hx hb d_M_ofBlock_73 rfl (lv_at hl 1 rfl) ?_
        refine lv_iload_n hx hb d_M_ofBlock_74 rfl (lv_at hl 2 rfl) ?_
        refine M_ro S (c_M_whole l D ca o sa fs g f b (by omega) (by omega)) k_M_42 rfl hP hK rfl rfl hl.1 ⟨Nat.le_of_ble_eq_true rfl, Nat.le_of_ble_eq_true rfl⟩ ⟨Nat.zero_le _, Nat.zero_le _⟩ (Nat.le_of_ble_eq_true rfl) d_M_ofBlock_75 ?_
        exact hret _ _ _ d_M_ofBlock_78 rfl (by first | (simp only [m_abl, m_abv, c_6, hcl, hcb, ↓reduceIte]; done) | (simp only [m_abl, m_abv, c_6, hcl, hcb, ↓reduceIte]; rfl) | rfl)
      · have hk2 : z = 3 := Int32.toInt_inj.mp (by rw [hk]; decide)
        subst hk2
        refine lv_tableIn (tgt := 79) (off := 67) hx hb d_M_ofBlock_12 (by rw [hk]; decide) (by rw [hk]; decide) (by rw [hk]; rfl) (by decide) ?_
        refine lv_aload_n hx hb d_M_ofBlock_79 rfl (lv_at hl 0 rfl) ?_
        refine lv_iload_n hx hb d_M_ofBlock_80 rfl (lv_at hl 1 rfl) ?_
        refine lv_iload_n hx hb d_M_ofBlock_81 rfl (lv_at hl 2 rfl) ?_
        refine M_ro S (c_M_lower l D ca o sa fs g f b (by omega) (by omega)) k_M_56 rfl hP hK rfl rfl hl.1 ⟨Nat.le_of_ble_eq_true rfl, Nat.le_of_ble_eq_true rfl⟩ ⟨Nat.zero_le _, Nat.zero_le _⟩ (Nat.le_of_ble_eq_true rfl) d_M_ofBlock_82 ?_
        exact hret _ _ _ d_M_ofBlock_85 rfl (by first | (simp only [m_abl, m_abv, c_6, hcl, hcb, ↓reduceIte]; done) | (simp only [m_abl, m_abv, c_6, hcl, hcb, ↓reduceIte]; rfl) | rfl)
      · have hk2 : z = 4 := Int32.toInt_inj.mp (by rw [hk]; decide)
        subst hk2
        refine lv_tableIn (tgt := 86) (off := 74) hx hb d_M_ofBlock_12 (by rw [hk]; decide) (by rw [hk]; decide) (by rw [hk]; rfl) (by decide) ?_
        refine lv_aload_n hx hb d_M_ofBlock_86 rfl (lv_at hl 0 rfl) ?_
        refine lv_iload_n hx hb d_M_ofBlock_87 rfl (lv_at hl 1 rfl) ?_
        refine lv_iload_n hx hb d_M_ofBlock_88 rfl (lv_at hl 2 rfl) ?_
        refine M_ro S (c_M_upper l D ca o sa fs g f b (by omega) (by omega)) k_M_63 rfl hP hK rfl rfl hl.1 ⟨Nat.le_of_ble_eq_true rfl, Nat.le_of_ble_eq_true rfl⟩ ⟨Nat.zero_le _, Nat.zero_le _⟩ (Nat.le_of_ble_eq_true rfl) d_M_ofBlock_89 ?_
        exact hret _ _ _ d_M_ofBlock_92 rfl (by first | (simp only [m_abl, m_abv, c_6, hcl, hcb, ↓reduceIte]; done) | (simp only [m_abl, m_abv, c_6, hcl, hcb, ↓reduceIte]; rfl) | rfl)
      · have hk2 : z = 5 := Int32.toInt_inj.mp (by rw [hk]; decide)
        subst hk2
        refine lv_tableIn (tgt := 93) (off := 81) hx hb d_M_ofBlock_12 (by rw [hk]; decide) (by rw [hk]; decide) (by rw [hk]; rfl) (by decide) ?_
        refine lv_aload_n hx hb d_M_ofBlock_93 rfl (lv_at hl 0 rfl) ?_
        refine f_get S cls_M hK hP 0 rfl 0 (by decide) fl_M_s rfl rfl d_M_ofBlock_94 ?_
        refine lv_iload_n hx hb d_M_ofBlock_97 rfl (lv_at hl 1 rfl) ?_
        refine lv_iload_n hx hb d_M_ofBlock_98 rfl (lv_at hl 2 rfl) ?_
        refine lv_iconst (v := 3) hx hb d_M_ofBlock_99 (by decide) ?_
        refine RO.callS S (c_M_of l D ca  f b 3 ) k_M_38 hK rfl rfl hl.1 ⟨Nat.le_of_ble_eq_true rfl, Nat.le_of_ble_eq_true rfl⟩ ⟨Nat.zero_le _, Nat.zero_le _⟩ (Nat.le_of_ble_eq_true rfl) d_M_ofBlock_100 ?_
        refine M_ld S hK hP (r := 10 + 4 * (f * 20 + b) + 3) (by omega) rfl d_M_ofBlock_103 ?_
        exact hret _ _ _ d_M_ofBlock_104 rfl (by first | (simp only [m_abl, m_abv, c_6, hcl, hcb, ↓reduceIte]; done) | (simp only [m_abl, m_abv, c_6, hcl, hcb, ↓reduceIte]; rfl) | rfl)
      · have hk2 : z = 6 := Int32.toInt_inj.mp (by rw [hk]; decide)
        subst hk2
        refine lv_tableIn (tgt := 105) (off := 93) hx hb d_M_ofBlock_12 (by rw [hk]; decide) (by rw [hk]; decide) (by rw [hk]; rfl) (by decide) ?_
        refine lv_aload_n hx hb d_M_ofBlock_105 rfl (lv_at hl 0 rfl) ?_
        refine lv_iload_n hx hb d_M_ofBlock_106 rfl (lv_at hl 1 rfl) ?_
        refine lv_iload_n hx hb d_M_ofBlock_107 rfl (lv_at hl 2 rfl) ?_
        refine lv_iload_n hx hb d_M_ofBlock_108 rfl (lv_at hl 3 rfl) ?_
        refine lv_bipush (v := 6) hx hb d_M_ofBlock_109 (by decide) ?_
        refine lv_isub hx hb d_M_ofBlock_111 ?_
        refine lv_tope (z := 0) (by decide) ?_
        refine M_ro S (c_M_travelTo l D ca o sa fs g f b 0 (by omega) (by omega) (by omega)) k_M_115 rfl hP hK rfl rfl hl.1 ⟨Nat.le_of_ble_eq_true rfl, Nat.le_of_ble_eq_true rfl⟩ ⟨Nat.zero_le _, Nat.zero_le _⟩ (Nat.le_of_ble_eq_true rfl) d_M_ofBlock_112 ?_
        exact hret _ _ _ d_M_ofBlock_115 rfl (by first | (simp only [m_abl, m_abv, c_6, hcl, hcb, ↓reduceIte]; done) | (simp only [m_abl, m_abv, c_6, hcl, hcb, ↓reduceIte]; rfl) | rfl)
      · have hk2 : z = 7 := Int32.toInt_inj.mp (by rw [hk]; decide)
        subst hk2
        refine lv_tableIn (tgt := 105) (off := 93) hx hb d_M_ofBlock_12 (by rw [hk]; decide) (by rw [hk]; decide) (by rw [hk]; rfl) (by decide) ?_
        refine lv_aload_n hx hb d_M_ofBlock_105 rfl (lv_at hl 0 rfl) ?_
        refine lv_iload_n hx hb d_M_ofBlock_106 rfl (lv_at hl 1 rfl) ?_
        refine lv_iload_n hx hb d_M_ofBlock_107 rfl (lv_at hl 2 rfl) ?_
        refine lv_iload_n hx hb d_M_ofBlock_108 rfl (lv_at hl 3 rfl) ?_
        refine lv_bipush (v := 6) hx hb d_M_ofBlock_109 (by decide) ?_
        refine lv_isub hx hb d_M_ofBlock_111 ?_
        refine lv_tope (z := 1) (by decide) ?_
        refine M_ro S (c_M_travelTo l D ca o sa fs g f b 1 (by omega) (by omega) (by omega)) k_M_115 rfl hP hK rfl rfl hl.1 ⟨Nat.le_of_ble_eq_true rfl, Nat.le_of_ble_eq_true rfl⟩ ⟨Nat.zero_le _, Nat.zero_le _⟩ (Nat.le_of_ble_eq_true rfl) d_M_ofBlock_112 ?_
        exact hret _ _ _ d_M_ofBlock_115 rfl (by first | (simp only [m_abl, m_abv, c_6, hcl, hcb, ↓reduceIte]; done) | (simp only [m_abl, m_abv, c_6, hcl, hcb, ↓reduceIte]; rfl) | rfl)
    · have hn_0 : ¬ z = 0 := fun q => hsw (by rw [q]; decide)
      have hn_1 : ¬ z = 1 := fun q => hsw (by rw [q]; decide)
      have hn_2 : ¬ z = 2 := fun q => hsw (by rw [q]; decide)
      have hn_3 : ¬ z = 3 := fun q => hsw (by rw [q]; decide)
      have hn_4 : ¬ z = 4 := fun q => hsw (by rw [q]; decide)
      have hn_5 : ¬ z = 5 := fun q => hsw (by rw [q]; decide)
      have hn_6 : ¬ z = 6 := fun q => hsw (by rw [q]; decide)
      have hn_7 : ¬ z = 7 := fun q => hsw (by rw [q]; decide)
      refine lv_tableOut (tgt := 116) hx hb d_M_ofBlock_12 (by omega) (by decide) ?_
      refine lv_bipush (v := (-2)) hx hb d_M_ofBlock_116 (by decide) ?_
      exact hret _ _ _ d_M_ofBlock_118 rfl (by first | (simp only [m_abl, m_abv, c_6, hcl, hcb, hn_0, hn_1, hn_2, hn_3, hn_4, hn_5, hn_6, hn_7, ↓reduceIte]; done) | (simp only [m_abl, m_abv, c_6, hcl, hcb, hn_0, hn_1, hn_2, hn_3, hn_4, hn_5, hn_6, hn_7, ↓reduceIte]; rfl) | rfl)
  · refine lv_iconst (v := (-1)) hx hb d_M_ofBlock_9 (by decide) ?_
    exact hret _ _ _ d_M_ofBlock_10 rfl (by first | (simp only [m_abl, m_abv, c_6, ↓reduceIte]; done) | (simp only [m_abl, m_abv, c_6, ↓reduceIte]; rfl) | rfl)
set_option maxHeartbeats 4000000 in
set_option maxRecDepth 100000 in
theorem c_M_at (l : Launch) (D : va_G) (ca : Nat → ClassId) (o sa : Nat) (fs : List Value) (g : Nat → Int32) (x : Int32) (hB : BN g): RO l y_M_at b_M_at 3 (some .int) 6 138 D ca [.ref o, .int x] (mw ca o sa fs g) (m_at g x) := by
  refine RO.mk (ty := .int) rfl rfl (Nat.le_of_ble_eq_true rfl) ?_
  intro p e s m args below meth c Q S hP hK
  obtain ⟨hx, hb, hml, hown, hts⟩ := id S
  intro hret ls hl0
  have hl : lv_has ls 3 [(0, .ref o), (1, .int x)] := hl0
  refine lv_iload_n hx hb d_M_at_0 rfl (lv_at hl 1 rfl) ?_
  refine lv_iconst (v := 0) hx hb d_M_at_1 (by decide) ?_
  refine lv_aload_n hx hb d_M_at_2 rfl (lv_at hl 0 rfl) ?_
  refine f_get S cls_M hK hP 0 rfl 0 (by decide) fl_M_s rfl rfl d_M_at_3 ?_
  refine lv_iconst (v := 0) hx hb d_M_at_6 (by decide) ?_
  refine M_ld S hK hP (r := 0) (by omega) rfl d_M_at_7 ?_
  refine lv_iconst (v := 1) hx hb d_M_at_8 (by decide) ?_
  refine lv_isub hx hb d_M_at_9 ?_
  refine RO.callS S (c_M_in l D ca  x 0 ((g 0) - 1) ) k_M_26 hK rfl rfl hl.1 ⟨Nat.le_of_ble_eq_true rfl, Nat.le_of_ble_eq_true rfl⟩ ⟨Nat.zero_le _, Nat.zero_le _⟩ (Nat.le_of_ble_eq_true rfl) d_M_at_10 ?_
  refine lv_if_ne (tgt := 19) hx hb d_M_at_13 (by decide) (fun c_13 => ?_) (fun c_13 => ?_)
  · refine lv_aload_n hx hb d_M_at_19 rfl (lv_at hl 0 rfl) ?_
    refine lv_iload_n hx hb d_M_at_20 rfl (lv_at hl 1 rfl) ?_
    refine lv_iload_n hx hb d_M_at_21 rfl (lv_at hl 1 rfl) ?_
    refine M_ro S (c_M_within l D ca o sa fs g x x hB) k_M_109 rfl hP hK rfl rfl hl.1 ⟨Nat.le_of_ble_eq_true rfl, Nat.le_of_ble_eq_true rfl⟩ ⟨Nat.zero_le _, Nat.zero_le _⟩ (Nat.le_of_ble_eq_true rfl) d_M_at_22 ?_
    refine lv_istore_n (lv' := [(2, .int (m_wi g x x)), (0, .ref o), (1, .int x)]) hx hb d_M_at_25 rfl hl (by decide) rfl (fun ls hl => ?_)
    refine lv_iload_n hx hb d_M_at_26 rfl (lv_at hl 0 rfl) ?_
    refine lv_iconst (v := (-1)) hx hb d_M_at_27 (by decide) ?_
    refine lv_icmp_ne (tgt := 35) hx hb d_M_at_28 (by decide) (fun c_28 => ?_) (fun c_28 => ?_)
    · refine lv_iload_n hx hb d_M_at_35 rfl (lv_at hl 0 rfl) ?_
      refine lv_if_lt (tgt := 51) hx hb d_M_at_36 (by decide) (fun c_36 => ?_) (fun c_36 => ?_)
      · refine lv_iload_n hx hb d_M_at_51 rfl (lv_at hl 2 rfl) ?_
        refine lv_aload_n hx hb d_M_at_52 rfl (lv_at hl 1 rfl) ?_
        refine lv_iconst (v := 0) hx hb d_M_at_53 (by decide) ?_
        refine M_ro S (c_M_end l D ca o sa fs g 0 hB (by omega)) k_M_53 rfl hP hK rfl rfl hl.1 ⟨Nat.le_of_ble_eq_true rfl, Nat.le_of_ble_eq_true rfl⟩ ⟨Nat.zero_le _, Nat.zero_le _⟩ (Nat.le_of_ble_eq_true rfl) d_M_at_54 ?_
        refine lv_icmp_ge (tgt := 64) hx hb d_M_at_57 (by decide) (fun c_57 => ?_) (fun c_57 => ?_)
        · refine lv_bipush (v := 11) hx hb d_M_at_64 (by decide) ?_
          exact hret _ _ _ d_M_at_66 rfl (by first | (simp only [m_at, c_13, c_28, c_36, c_57, ↓reduceIte]; done) | (simp only [m_at, c_13, c_28, c_36, c_57, ↓reduceIte]; rfl) | rfl)
        · refine lv_iconst (v := 1) hx hb d_M_at_60 (by decide) ?_
          refine lv_goto (tgt := 66) hx hb d_M_at_61 (by decide) ?_
          exact hret _ _ _ d_M_at_66 rfl (by first | (simp only [m_at, c_13, c_28, c_36, c_57, ↓reduceIte]; done) | (simp only [m_at, c_13, c_28, c_36, c_57, ↓reduceIte]; rfl) | rfl)
      · refine lv_iconst (v := 2) hx hb d_M_at_39 (by decide) ?_
        refine lv_bipush (v := 10) hx hb d_M_at_40 (by decide) ?_
        refine lv_iload_n hx hb d_M_at_42 rfl (lv_at hl 0 rfl) ?_
        refine lv_bipush (v := 20) hx hb d_M_at_43 (by decide) ?_
        refine lv_idiv hx hb d_M_at_45 (by decide) ?_
        refine lv_imul hx hb d_M_at_46 ?_
        refine lv_iadd hx hb d_M_at_47 ?_
        refine lv_goto (tgt := 66) hx hb d_M_at_48 (by decide) ?_
        exact hret _ _ _ d_M_at_66 rfl (by first | (simp only [m_at, c_13, c_28, c_36, ↓reduceIte]; done) | (simp only [m_at, c_13, c_28, c_36, ↓reduceIte]; rfl) | rfl)
    · refine lv_iconst (v := 0) hx hb d_M_at_31 (by decide) ?_
      refine lv_goto (tgt := 66) hx hb d_M_at_32 (by decide) ?_
      exact hret _ _ _ d_M_at_66 rfl (by first | (simp only [m_at, c_13, c_28, ↓reduceIte]; done) | (simp only [m_at, c_13, c_28, ↓reduceIte]; rfl) | rfl)
  · refine lv_bipush (v := (-2)) hx hb d_M_at_16 (by decide) ?_
    exact hret _ _ _ d_M_at_18 rfl (by first | (simp only [m_at, c_13, ↓reduceIte]; done) | (simp only [m_at, c_13, ↓reduceIte]; rfl) | rfl)
set_option maxHeartbeats 4000000 in
set_option maxRecDepth 100000 in
theorem c_M_fits (l : Launch) (D : va_G) (ca : Nat → ClassId) (o sa : Nat) (fs : List Value) (g : Nat → Int32) (x : Int32) (hB : BN g): RO l y_M_fits b_M_fits 3 (some .int) 6 130 D ca [.ref o, .int x] (mw ca o sa fs g) (m_fit g x) := by
  refine RO.mk (ty := .int) rfl rfl (Nat.le_of_ble_eq_true rfl) ?_
  intro p e s m args below meth c Q S hP hK
  obtain ⟨hx, hb, hml, hown, hts⟩ := id S
  intro hret ls hl0
  have hl : lv_has ls 3 [(0, .ref o), (1, .int x)] := hl0
  refine lv_iload_n hx hb d_M_fits_0 rfl (lv_at hl 1 rfl) ?_
  refine RO.callS S (c_M_isFile l D ca  x ) k_M_30 hK rfl rfl hl.1 ⟨Nat.le_of_ble_eq_true rfl, Nat.le_of_ble_eq_true rfl⟩ ⟨Nat.zero_le _, Nat.zero_le _⟩ (Nat.le_of_ble_eq_true rfl) d_M_fits_1 ?_
  refine lv_if_ne (tgt := 9) hx hb d_M_fits_4 (by decide) (fun c_4 => ?_) (fun c_4 => ?_)
  · obtain ⟨f, hf, rfl⟩ := isf_of c_4
    have hcl : (nI f).toNatClampNeg = f := nI_clamp (by omega)
    have hn20 := (hB f hf).2
    refine lv_aload_n hx hb d_M_fits_9 rfl (lv_at hl 0 rfl) ?_
    refine M_ro S (c_M_gap l D ca o sa fs g  hB) k_M_70 rfl hP hK rfl rfl hl.1 ⟨Nat.le_of_ble_eq_true rfl, Nat.le_of_ble_eq_true rfl⟩ ⟨Nat.zero_le _, Nat.zero_le _⟩ (Nat.le_of_ble_eq_true rfl) d_M_fits_10 ?_
    refine lv_aload_n hx hb d_M_fits_13 rfl (lv_at hl 0 rfl) ?_
    refine f_get S cls_M hK hP 0 rfl 0 (by decide) fl_M_s rfl rfl d_M_fits_14 ?_
    refine lv_iconst (v := 1) hx hb d_M_fits_17 (by decide) ?_
    refine M_ld S hK hP (r := 1) (by omega) rfl d_M_fits_18 ?_
    refine lv_isub hx hb d_M_fits_19 ?_
    refine lv_iconst (v := 2) hx hb d_M_fits_20 (by decide) ?_
    refine lv_aload_n hx hb d_M_fits_21 rfl (lv_at hl 0 rfl) ?_
    refine f_get S cls_M hK hP 0 rfl 0 (by decide) fl_M_s rfl rfl d_M_fits_22 ?_
    refine lv_iconst (v := 2) hx hb d_M_fits_25 (by decide) ?_
    refine M_ld S hK hP (r := 2) (by omega) rfl d_M_fits_26 ?_
    refine lv_imul hx hb d_M_fits_27 ?_
    refine lv_isub hx hb d_M_fits_28 ?_
    refine lv_istore_n (lv' := [(2, .int (((gp g) - (g 1)) - (2 * (g 2)))), (0, .ref o), (1, .int (nI f))]) hx hb d_M_fits_29 rfl hl (by decide) rfl (fun ls hl => ?_)
    refine lv_iload_n hx hb d_M_fits_30 rfl (lv_at hl 0 rfl) ?_
    refine lv_if_lt (tgt := 48) hx hb d_M_fits_31 (by decide) (fun c_31 => ?_) (fun c_31 => ?_)
    · refine lv_iconst (v := 0) hx hb d_M_fits_48 (by decide) ?_
      refine lv_goto (tgt := 64) hx hb d_M_fits_49 (by decide) ?_
      exact hret _ _ _ d_M_fits_64 rfl (by first | (simp only [m_fit, c_4, hcl, c_31, ↓reduceIte]; done) | (simp only [m_fit, c_4, hcl, c_31, ↓reduceIte]; rfl) | rfl)
    · refine lv_aload_n hx hb d_M_fits_34 rfl (lv_at hl 1 rfl) ?_
      refine f_get S cls_M hK hP 0 rfl 0 (by decide) fl_M_s rfl rfl d_M_fits_35 ?_
      refine lv_bipush (v := 8) hx hb d_M_fits_38 (by decide) ?_
      refine lv_iload_n hx hb d_M_fits_40 rfl (lv_at hl 2 rfl) ?_
      refine lv_iadd hx hb d_M_fits_41 ?_
      refine lv_tope (z := nI (8 + f)) (nI_add 8 f) ?_
      refine M_ld S hK hP (r := 8 + f) (by omega) rfl d_M_fits_42 ?_
      refine lv_tope (z := nI (bn g f)) ((hB f hf).1) ?_
      refine lv_bipush (v := 20) hx hb d_M_fits_43 (by decide) ?_
      refine lv_icmp_ne (tgt := 52) hx hb d_M_fits_45 (by decide) (fun c_45 => ?_) (fun c_45 => ?_)
      · refine lv_iload_n hx hb d_M_fits_52 rfl (lv_at hl 0 rfl) ?_
        refine lv_bipush (v := 99) hx hb d_M_fits_53 (by decide) ?_
        refine lv_icmp_le (tgt := 63) hx hb d_M_fits_55 (by decide) (fun c_55 => ?_) (fun c_55 => ?_)
        · refine lv_iload_n hx hb d_M_fits_63 rfl (lv_at hl 0 rfl) ?_
          exact hret _ _ _ d_M_fits_64 rfl (by first | (simp only [m_fit, c_4, hcl, c_31, c_45, c_55, ↓reduceIte]; done) | (simp only [m_fit, c_4, hcl, c_31, c_45, c_55, ↓reduceIte]; rfl) | rfl)
        · refine lv_bipush (v := 99) hx hb d_M_fits_58 (by decide) ?_
          refine lv_goto (tgt := 64) hx hb d_M_fits_60 (by decide) ?_
          exact hret _ _ _ d_M_fits_64 rfl (by first | (simp only [m_fit, c_4, hcl, c_31, c_45, c_55, ↓reduceIte]; done) | (simp only [m_fit, c_4, hcl, c_31, c_45, c_55, ↓reduceIte]; rfl) | rfl)
      · refine lv_iconst (v := 0) hx hb d_M_fits_48 (by decide) ?_
        refine lv_goto (tgt := 64) hx hb d_M_fits_49 (by decide) ?_
        exact hret _ _ _ d_M_fits_64 rfl (by first | (simp only [m_fit, c_4, hcl, c_31, c_45, ↓reduceIte]; done) | (simp only [m_fit, c_4, hcl, c_31, c_45, ↓reduceIte]; rfl) | rfl)
  · refine lv_iconst (v := (-1)) hx hb d_M_fits_7 (by decide) ?_
    exact hret _ _ _ d_M_fits_8 rfl (by first | (simp only [m_fit, c_4, ↓reduceIte]; done) | (simp only [m_fit, c_4, ↓reduceIte]; rfl) | rfl)
set_option maxHeartbeats 4000000 in
set_option maxRecDepth 100000 in
theorem c_M_rooms (l : Launch) (D : va_G) (ca : Nat → ClassId) (o sa : Nat) (fs : List Value) (g : Nat → Int32) (x : Int32) (hB : BN g) (hne : inr x 1 99 = 0 ∨ ¬ x + 2 * g 2 = 0): RO l y_M_rooms b_M_rooms 4 (some .int) 6 130 D ca [.ref o, .int x] (mw ca o sa fs g) (m_roo g x) := by
  refine RO.mk (ty := .int) rfl rfl (Nat.le_of_ble_eq_true rfl) ?_
  intro p e s m args below meth c Q S hP hK
  obtain ⟨hx, hb, hml, hown, hts⟩ := id S
  intro hret ls hl0
  have hl : lv_has ls 4 [(0, .ref o), (1, .int x)] := hl0
  refine lv_iload_n hx hb d_M_rooms_0 rfl (lv_at hl 1 rfl) ?_
  refine lv_iconst (v := 1) hx hb d_M_rooms_1 (by decide) ?_
  refine lv_bipush (v := 99) hx hb d_M_rooms_2 (by decide) ?_
  refine RO.callS S (c_M_in l D ca  x 1 99 ) k_M_26 hK rfl rfl hl.1 ⟨Nat.le_of_ble_eq_true rfl, Nat.le_of_ble_eq_true rfl⟩ ⟨Nat.zero_le _, Nat.zero_le _⟩ (Nat.le_of_ble_eq_true rfl) d_M_rooms_4 ?_
  refine lv_if_ne (tgt := 13) hx hb d_M_rooms_7 (by decide) (fun c_7 => ?_) (fun c_7 => ?_)
  · refine lv_aload_n hx hb d_M_rooms_13 rfl (lv_at hl 0 rfl) ?_
    refine M_ro S (c_M_gap l D ca o sa fs g  hB) k_M_70 rfl hP hK rfl rfl hl.1 ⟨Nat.le_of_ble_eq_true rfl, Nat.le_of_ble_eq_true rfl⟩ ⟨Nat.zero_le _, Nat.zero_le _⟩ (Nat.le_of_ble_eq_true rfl) d_M_rooms_14 ?_
    refine lv_aload_n hx hb d_M_rooms_17 rfl (lv_at hl 0 rfl) ?_
    refine f_get S cls_M hK hP 0 rfl 0 (by decide) fl_M_s rfl rfl d_M_rooms_18 ?_
    refine lv_iconst (v := 1) hx hb d_M_rooms_21 (by decide) ?_
    refine M_ld S hK hP (r := 1) (by omega) rfl d_M_rooms_22 ?_
    refine lv_isub hx hb d_M_rooms_23 ?_
    refine lv_iload_n hx hb d_M_rooms_24 rfl (lv_at hl 1 rfl) ?_
    refine lv_iconst (v := 2) hx hb d_M_rooms_25 (by decide) ?_
    refine lv_aload_n hx hb d_M_rooms_26 rfl (lv_at hl 0 rfl) ?_
    refine f_get S cls_M hK hP 0 rfl 0 (by decide) fl_M_s rfl rfl d_M_rooms_27 ?_
    refine lv_iconst (v := 2) hx hb d_M_rooms_30 (by decide) ?_
    refine M_ld S hK hP (r := 2) (by omega) rfl d_M_rooms_31 ?_
    refine lv_imul hx hb d_M_rooms_32 ?_
    refine lv_iadd hx hb d_M_rooms_33 ?_
    refine lv_idiv hx hb d_M_rooms_34 (hne.resolve_left c_7) ?_
    refine lv_istore_n (lv' := [(2, .int (((gp g) - (g 1)) / (x + (2 * (g 2))))), (0, .ref o), (1, .int x)]) hx hb d_M_rooms_35 rfl hl (by decide) rfl (fun ls hl => ?_)
    refine lv_bipush (v := 40) hx hb d_M_rooms_36 (by decide) ?_
    refine lv_aload_n hx hb d_M_rooms_38 rfl (lv_at hl 1 rfl) ?_
    refine f_get S cls_M hK hP 0 rfl 0 (by decide) fl_M_s rfl rfl d_M_rooms_39 ?_
    refine lv_bipush (v := 8) hx hb d_M_rooms_42 (by decide) ?_
    refine M_ld S hK hP (r := 8) (by omega) rfl d_M_rooms_44 ?_
    refine lv_tope (z := nI (bn g 0)) ((hB 0 (by omega)).1) ?_
    refine lv_isub hx hb d_M_rooms_45 ?_
    refine lv_aload_n hx hb d_M_rooms_46 rfl (lv_at hl 1 rfl) ?_
    refine f_get S cls_M hK hP 0 rfl 0 (by decide) fl_M_s rfl rfl d_M_rooms_47 ?_
    refine lv_bipush (v := 9) hx hb d_M_rooms_50 (by decide) ?_
    refine M_ld S hK hP (r := 9) (by omega) rfl d_M_rooms_52 ?_
    refine lv_tope (z := nI (bn g 1)) ((hB 1 (by omega)).1) ?_
    refine lv_isub hx hb d_M_rooms_53 ?_
    refine lv_istore_n (lv' := [(3, .int ((40 - (nI (bn g 0))) - (nI (bn g 1)))), (2, .int (((gp g) - (g 1)) / (x + (2 * (g 2))))), (0, .ref o), (1, .int x)]) hx hb d_M_rooms_54 rfl hl (by decide) rfl (fun ls hl => ?_)
    refine lv_iload_n hx hb d_M_rooms_55 rfl (lv_at hl 1 rfl) ?_
    refine lv_iload_n hx hb d_M_rooms_56 rfl (lv_at hl 0 rfl) ?_
    refine lv_icmp_ge (tgt := 64) hx hb d_M_rooms_57 (by decide) (fun c_57 => ?_) (fun c_57 => ?_)
    · refine lv_iload_n hx hb d_M_rooms_64 rfl (lv_at hl 0 rfl) ?_
      exact hret _ _ _ d_M_rooms_65 rfl (by first | (simp only [m_roo, c_7, c_57, ↓reduceIte]; done) | (simp only [m_roo, c_7, c_57, ↓reduceIte]; rfl) | rfl)
    · refine lv_iload_n hx hb d_M_rooms_60 rfl (lv_at hl 1 rfl) ?_
      refine lv_goto (tgt := 65) hx hb d_M_rooms_61 (by decide) ?_
      exact hret _ _ _ d_M_rooms_65 rfl (by first | (simp only [m_roo, c_7, c_57, ↓reduceIte]; done) | (simp only [m_roo, c_7, c_57, ↓reduceIte]; rfl) | rfl)
  · refine lv_bipush (v := (-2)) hx hb d_M_rooms_10 (by decide) ?_
    exact hret _ _ _ d_M_rooms_12 rfl (by first | (simp only [m_roo, c_7, ↓reduceIte]; done) | (simp only [m_roo, c_7, ↓reduceIte]; rfl) | rfl)
set_option maxHeartbeats 4000000 in
set_option maxRecDepth 100000 in
theorem c_M_nearest (l : Launch) (D : va_G) (ca : Nat → ClassId) (o sa : Nat) (fs : List Value) (g : Nat → Int32) (x : Int32) (hB : BN g): RO l y_M_nearest b_M_nearest 9 (some .int) 7 160 D ca [.ref o, .int x] (mw ca o sa fs g) (m_nea g x) := by
  refine RO.mk (ty := .int) rfl rfl (Nat.le_of_ble_eq_true rfl) ?_
  intro p e s m args below meth c Q S hP hK
  obtain ⟨hx, hb, hml, hown, hts⟩ := id S
  intro hret ls hl0
  have hl : lv_has ls 9 [(0, .ref o), (1, .int x)] := hl0
  refine lv_iload_n hx hb d_M_nearest_0 rfl (lv_at hl 1 rfl) ?_
  refine lv_iconst (v := 0) hx hb d_M_nearest_1 (by decide) ?_
  refine lv_iconst (v := 3) hx hb d_M_nearest_2 (by decide) ?_
  refine RO.callS S (c_M_in l D ca  x 0 3 ) k_M_26 hK rfl rfl hl.1 ⟨Nat.le_of_ble_eq_true rfl, Nat.le_of_ble_eq_true rfl⟩ ⟨Nat.zero_le _, Nat.zero_le _⟩ (Nat.le_of_ble_eq_true rfl) d_M_nearest_3 ?_
  refine lv_if_ne (tgt := 12) hx hb d_M_nearest_6 (by decide) (fun c_6 => ?_) (fun c_6 => ?_)
  · refine lv_bipush (v := (-6)) hx hb d_M_nearest_12 (by decide) ?_
    refine lv_istore_n (lv' := [(2, .int (-6)), (0, .ref o), (1, .int x)]) hx hb d_M_nearest_14 rfl hl (by decide) rfl (fun ls hl => ?_)
    refine lv_iconst (v := 0) hx hb d_M_nearest_15 (by decide) ?_
    refine lv_istore_n (lv' := [(3, .int 0), (2, .int (-6)), (0, .ref o), (1, .int x)]) hx hb d_M_nearest_16 rfl hl (by decide) rfl (fun ls hl => ?_)
    refine lv_iconst (v := 0) hx hb d_M_nearest_17 (by decide) ?_
    refine lv_istore (lv' := [(4, .int 0), (3, .int 0), (2, .int (-6)), (0, .ref o), (1, .int x)]) hx hb d_M_nearest_18 hl (by decide) rfl (fun ls hl => ?_)
    suffices lp : ∀ (r k : Nat) (q : Int32 × Int32), 80 - k < r → k ≤ 80 → mnl g 80 0 (-6, 0) = mnl g (80 - k) k q → ∀ ls : Array Slot, lv_has ls 9 [(2, .int q.1), (3, .int q.2), (4, .int (nI k)), (0, .ref o), (1, .int x)] → W p l e (rm 7 160 0 0) s m args below meth c s.heap [] 0 0 Q (F0 m 20 ls []) from lp 81 0 (-6, 0) (by omega) (by omega) rfl _ (lv_sub hl [2, 1, 0, 3, 4] rfl)
    intro r
    induction r with
    | zero => intro k q hk; omega
    | succ r ih =>
      intro k q hk hkn hE ls hl
      refine lv_iload hx hb d_M_nearest_20 (lv_at hl 2 rfl) ?_
      refine lv_bipush (v := 80) hx hb d_M_nearest_22 (by decide) ?_
      refine lv_icmp_ge (tgt := 121) hx hb d_M_nearest_24 (by decide) (fun c_24 => ?_) (fun c_24 => ?_)
      · have e_24 : 80 ≤ k := le_of_nI (by omega) (by omega) (show nI 80 ≤ nI k from c_24)
        obtain rfl : k = 80 := by omega
        have hE : mnl g 80 0 (-6, 0) = q := hE
        refine lv_iload_n hx hb d_M_nearest_121 rfl (lv_at hl 0 rfl) ?_
        refine lv_bipush (v := (-6)) hx hb d_M_nearest_122 (by decide) ?_
        refine lv_icmp_ne (tgt := 132) hx hb d_M_nearest_124 (by decide) (fun c_124 => ?_) (fun c_124 => ?_)
        · refine lv_iload_n hx hb d_M_nearest_132 rfl (lv_at hl 4 rfl) ?_
          refine lv_if_ne (tgt := 143) hx hb d_M_nearest_133 (by decide) (fun c_133 => ?_) (fun c_133 => ?_)
          · refine lv_iload_n hx hb d_M_nearest_143 rfl (lv_at hl 4 rfl) ?_
            refine lv_iconst (v := 1) hx hb d_M_nearest_144 (by decide) ?_
            refine lv_icmp_ne (tgt := 157) hx hb d_M_nearest_145 (by decide) (fun c_145 => ?_) (fun c_145 => ?_)
            · refine lv_iload_n hx hb d_M_nearest_157 rfl (lv_at hl 4 rfl) ?_
              refine lv_iconst (v := 2) hx hb d_M_nearest_158 (by decide) ?_
              refine lv_icmp_ne (tgt := 168) hx hb d_M_nearest_159 (by decide) (fun c_159 => ?_) (fun c_159 => ?_)
              · refine lv_iload_n hx hb d_M_nearest_168 rfl (lv_at hl 1 rfl) ?_
                exact hret _ _ _ d_M_nearest_169 rfl (by first | (simp only [m_nea, mnx, c_6, hE, c_124, c_133, c_145, c_159, ↓reduceIte]; done) | (simp only [m_nea, mnx, c_6, hE, c_124, c_133, c_145, c_159, ↓reduceIte]; rfl) | rfl)
              · refine lv_iload_n hx hb d_M_nearest_162 rfl (lv_at hl 0 rfl) ?_
                refine lv_iconst (v := 2) hx hb d_M_nearest_163 (by decide) ?_
                refine lv_irem hx hb d_M_nearest_164 (by decide) ?_
                refine lv_goto (tgt := 169) hx hb d_M_nearest_165 (by decide) ?_
                exact hret _ _ _ d_M_nearest_169 rfl (by first | (simp only [m_nea, mnx, c_6, hE, c_124, c_133, c_145, c_159, ↓reduceIte]; done) | (simp only [m_nea, mnx, c_6, hE, c_124, c_133, c_145, c_159, ↓reduceIte]; rfl) | rfl)
            · refine lv_iload_n hx hb d_M_nearest_148 rfl (lv_at hl 0 rfl) ?_
              refine lv_iconst (v := 2) hx hb d_M_nearest_149 (by decide) ?_
              refine lv_idiv hx hb d_M_nearest_150 (by decide) ?_
              refine lv_bipush (v := 20) hx hb d_M_nearest_151 (by decide) ?_
              refine lv_irem hx hb d_M_nearest_153 (by decide) ?_
              refine lv_goto (tgt := 169) hx hb d_M_nearest_154 (by decide) ?_
              exact hret _ _ _ d_M_nearest_169 rfl (by first | (simp only [m_nea, mnx, c_6, hE, c_124, c_133, c_145, ↓reduceIte]; done) | (simp only [m_nea, mnx, c_6, hE, c_124, c_133, c_145, ↓reduceIte]; rfl) | rfl)
          · refine lv_iload_n hx hb d_M_nearest_136 rfl (lv_at hl 0 rfl) ?_
            refine lv_bipush (v := 40) hx hb d_M_nearest_137 (by decide) ?_
            refine lv_idiv hx hb d_M_nearest_139 (by decide) ?_
            refine lv_goto (tgt := 169) hx hb d_M_nearest_140 (by decide) ?_
            exact hret _ _ _ d_M_nearest_169 rfl (by first | (simp only [m_nea, mnx, c_6, hE, c_124, c_133, ↓reduceIte]; done) | (simp only [m_nea, mnx, c_6, hE, c_124, c_133, ↓reduceIte]; rfl) | rfl)
        · refine lv_bipush (v := (-6)) hx hb d_M_nearest_127 (by decide) ?_
          refine lv_goto (tgt := 169) hx hb d_M_nearest_129 (by decide) ?_
          exact hret _ _ _ d_M_nearest_169 rfl (by first | (simp only [m_nea, mnx, c_6, hE, c_124, ↓reduceIte]; done) | (simp only [m_nea, mnx, c_6, hE, c_124, ↓reduceIte]; rfl) | rfl)
      · have e_24 : k < 80 := nle_lt (by omega) (by omega) (show ¬ nI 80 ≤ nI k from c_24)
        have hf : k / 40 < 2 := by omega
        have hn := (hB (k / 40) hf).2
        have hE1 : ∀ q2, q2 = mns g k q → mnl g 80 0 (-6, 0) = mnl g (80 - (k + 1)) (k + 1) q2 := by
          intro q2 h2
          rw [hE, show 80 - k = (80 - (k + 1)) + 1 by omega, h2]; rfl
        refine lv_iload hx hb d_M_nearest_27 (lv_at hl 2 rfl) ?_
        refine lv_bipush (v := 40) hx hb d_M_nearest_29 (by decide) ?_
        refine lv_idiv hx hb d_M_nearest_31 (by decide) ?_
        refine lv_tope (z := nI (k / 40)) (pk_div (by omega) (by decide) (by decide)) ?_
        refine lv_istore (lv' := [(5, .int (nI (k / 40))), (2, .int q.1), (3, .int q.2), (4, .int (nI k)), (0, .ref o), (1, .int x)]) hx hb d_M_nearest_32 hl (by decide) rfl (fun ls hl => ?_)
        refine lv_iload hx hb d_M_nearest_34 (lv_at hl 3 rfl) ?_
        refine lv_iconst (v := 2) hx hb d_M_nearest_36 (by decide) ?_
        refine lv_idiv hx hb d_M_nearest_37 (by decide) ?_
        refine lv_tope (z := nI (k / 2)) (pk_div (by omega) (by decide) (by decide)) ?_
        refine lv_bipush (v := 20) hx hb d_M_nearest_38 (by decide) ?_
        refine lv_irem hx hb d_M_nearest_40 (by decide) ?_
        refine lv_tope (z := nI (k / 2 % 20)) (pk_rem (by omega) (by decide) (by decide)) ?_
        refine lv_istore (lv' := [(6, .int (nI (k / 2 % 20))), (5, .int (nI (k / 40))), (2, .int q.1), (3, .int q.2), (4, .int (nI k)), (0, .ref o), (1, .int x)]) hx hb d_M_nearest_41 hl (by decide) rfl (fun ls hl => ?_)
        refine lv_iload hx hb d_M_nearest_43 (lv_at hl 0 rfl) ?_
        refine lv_aload_n hx hb d_M_nearest_45 rfl (lv_at hl 5 rfl) ?_
        refine f_get S cls_M hK hP 0 rfl 0 (by decide) fl_M_s rfl rfl d_M_nearest_46 ?_
        refine lv_bipush (v := 8) hx hb d_M_nearest_49 (by decide) ?_
        refine lv_iload hx hb d_M_nearest_51 (lv_at hl 1 rfl) ?_
        refine lv_iadd hx hb d_M_nearest_53 ?_
        refine lv_tope (z := nI (8 + (k / 40))) (nI_add 8 (k / 40)) ?_
        refine M_ld S hK hP (r := 8 + (k / 40)) (by omega) rfl d_M_nearest_54 ?_
        refine lv_tope (z := nI (bn g (k / 40))) ((hB (k / 40) hf).1) ?_
        refine lv_icmp_ge (tgt := 115) hx hb d_M_nearest_55 (by decide) (fun c_55 => ?_) (fun c_55 => ?_)
        · have hq : (q.1, q.2) = mns g k q := by
            simp only [mns, c_55, ↓reduceIte]
          refine lv_iinc (v := nI (k + 1)) (lv' := [(4, .int (nI (k + 1))), (6, .int (nI (k / 2 % 20))), (5, .int (nI (k / 40))), (2, .int q.1), (3, .int q.2), (0, .ref o), (1, .int x)]) hx hb d_M_nearest_115 hl (k := 4) rfl (nI_1 k) (by decide) rfl (fun ls hl => ?_)
          refine lv_goto (tgt := 20) hx hb d_M_nearest_118 (by decide) ?_
          exact ih (k + 1) (q.1, q.2) (by omega) (by omega) (hE1 _ hq) _ (lv_sub hl [3, 4, 0, 5, 6] rfl)
        · have e_55 : k / 2 % 20 < bn g (k / 40) := nle_lt (by omega) (by omega) c_55
          refine lv_aload_n hx hb d_M_nearest_58 rfl (lv_at hl 5 rfl) ?_
          refine lv_iload hx hb d_M_nearest_59 (lv_at hl 1 rfl) ?_
          refine lv_iload hx hb d_M_nearest_61 (lv_at hl 0 rfl) ?_
          refine lv_iload hx hb d_M_nearest_63 (lv_at hl 4 rfl) ?_
          refine lv_iconst (v := 2) hx hb d_M_nearest_65 (by decide) ?_
          refine lv_irem hx hb d_M_nearest_66 (by decide) ?_
          refine lv_tope (z := nI (k % 2)) (pk_rem (by omega) (by decide) (by decide)) ?_
          refine M_ro S (c_M_travelTo l D ca o sa fs g (k / 40) (k / 2 % 20) (k % 2) (by omega) (by omega) (by omega)) k_M_115 rfl hP hK rfl rfl hl.1 ⟨Nat.le_of_ble_eq_true rfl, Nat.le_of_ble_eq_true rfl⟩ ⟨Nat.zero_le _, Nat.zero_le _⟩ (Nat.le_of_ble_eq_true rfl) d_M_nearest_67 ?_
          refine lv_istore (lv' := [(7, .int (m_tr g (k / 40) (k / 2 % 20) (k % 2))), (6, .int (nI (k / 2 % 20))), (5, .int (nI (k / 40))), (2, .int q.1), (3, .int q.2), (4, .int (nI k)), (0, .ref o), (1, .int x)]) hx hb d_M_nearest_70 hl (by decide) rfl (fun ls hl => ?_)
          refine lv_iload_n hx hb d_M_nearest_72 rfl (lv_at hl 3 rfl) ?_
          refine lv_bipush (v := (-6)) hx hb d_M_nearest_73 (by decide) ?_
          refine lv_icmp_eq (tgt := 84) hx hb d_M_nearest_75 (by decide) (fun c_75 => ?_) (fun c_75 => ?_)
          · refine lv_iconst (v := 1) hx hb d_M_nearest_84 (by decide) ?_
            refine lv_goto (tgt := 89) hx hb d_M_nearest_85 (by decide) ?_
            refine lv_istore (lv' := [(8, .int 1), (7, .int (m_tr g (k / 40) (k / 2 % 20) (k % 2))), (6, .int (nI (k / 2 % 20))), (5, .int (nI (k / 40))), (2, .int q.1), (3, .int q.2), (4, .int (nI k)), (0, .ref o), (1, .int x)]) hx hb d_M_nearest_89 hl (by decide) rfl (fun ls hl => ?_)
            refine lv_iload hx hb d_M_nearest_91 (lv_at hl 0 rfl) ?_
            refine lv_if_eq (tgt := 101) hx hb d_M_nearest_93 (by decide) (fun q => absurd q (by decide)) (fun _ => ?_)
            refine lv_iload hx hb d_M_nearest_96 (lv_at hl 6 rfl) ?_
            refine lv_goto (tgt := 102) hx hb d_M_nearest_98 (by decide) ?_
            refine lv_istore_n (lv' := [(2, .int (nI k)), (8, .int 1), (7, .int (m_tr g (k / 40) (k / 2 % 20) (k % 2))), (6, .int (nI (k / 2 % 20))), (5, .int (nI (k / 40))), (3, .int q.2), (4, .int (nI k)), (0, .ref o), (1, .int x)]) hx hb d_M_nearest_102 rfl hl (by decide) rfl (fun ls hl => ?_)
            refine lv_iload hx hb d_M_nearest_103 (lv_at hl 1 rfl) ?_
            refine lv_if_eq (tgt := 113) hx hb d_M_nearest_105 (by decide) (fun q => absurd q (by decide)) (fun _ => ?_)
            refine lv_iload hx hb d_M_nearest_108 (lv_at hl 2 rfl) ?_
            refine lv_goto (tgt := 114) hx hb d_M_nearest_110 (by decide) ?_
            refine lv_istore_n (lv' := [(3, .int (m_tr g (k / 40) (k / 2 % 20) (k % 2))), (2, .int (nI k)), (8, .int 1), (7, .int (m_tr g (k / 40) (k / 2 % 20) (k % 2))), (6, .int (nI (k / 2 % 20))), (5, .int (nI (k / 40))), (4, .int (nI k)), (0, .ref o), (1, .int x)]) hx hb d_M_nearest_114 rfl hl (by decide) rfl (fun ls hl => ?_)
            have hq : (nI k, m_tr g (k / 40) (k / 2 % 20) (k % 2)) = mns g k q := by
              simp only [mns, c_55, c_75, ↓reduceIte]
            refine lv_iinc (v := nI (k + 1)) (lv' := [(4, .int (nI (k + 1))), (3, .int (m_tr g (k / 40) (k / 2 % 20) (k % 2))), (2, .int (nI k)), (8, .int 1), (7, .int (m_tr g (k / 40) (k / 2 % 20) (k % 2))), (6, .int (nI (k / 2 % 20))), (5, .int (nI (k / 40))), (0, .ref o), (1, .int x)]) hx hb d_M_nearest_115 hl (k := 6) rfl (nI_1 k) (by decide) rfl (fun ls hl => ?_)
            refine lv_goto (tgt := 20) hx hb d_M_nearest_118 (by decide) ?_
            exact ih (k + 1) (nI k, m_tr g (k / 40) (k / 2 % 20) (k % 2)) (by omega) (by omega) (hE1 _ hq) _ (lv_sub hl [2, 1, 0, 7, 8] rfl)
          · refine lv_iload hx hb d_M_nearest_78 (lv_at hl 0 rfl) ?_
            refine lv_iload_n hx hb d_M_nearest_80 rfl (lv_at hl 4 rfl) ?_
            refine lv_icmp_ge (tgt := 88) hx hb d_M_nearest_81 (by decide) (fun c_81 => ?_) (fun c_81 => ?_)
            · refine lv_iconst (v := 0) hx hb d_M_nearest_88 (by decide) ?_
              refine lv_istore (lv' := [(8, .int 0), (7, .int (m_tr g (k / 40) (k / 2 % 20) (k % 2))), (6, .int (nI (k / 2 % 20))), (5, .int (nI (k / 40))), (2, .int q.1), (3, .int q.2), (4, .int (nI k)), (0, .ref o), (1, .int x)]) hx hb d_M_nearest_89 hl (by decide) rfl (fun ls hl => ?_)
              refine lv_iload hx hb d_M_nearest_91 (lv_at hl 0 rfl) ?_
              refine lv_if_eq (tgt := 101) hx hb d_M_nearest_93 (by decide) (fun _ => ?_) (fun q => absurd (by decide) q)
              refine lv_iload_n hx hb d_M_nearest_101 rfl (lv_at hl 4 rfl) ?_
              refine lv_istore_n (lv' := [(2, .int q.1), (8, .int 0), (7, .int (m_tr g (k / 40) (k / 2 % 20) (k % 2))), (6, .int (nI (k / 2 % 20))), (5, .int (nI (k / 40))), (3, .int q.2), (4, .int (nI k)), (0, .ref o), (1, .int x)]) hx hb d_M_nearest_102 rfl hl (by decide) rfl (fun ls hl => ?_)
              refine lv_iload hx hb d_M_nearest_103 (lv_at hl 1 rfl) ?_
              refine lv_if_eq (tgt := 113) hx hb d_M_nearest_105 (by decide) (fun _ => ?_) (fun q => absurd (by decide) q)
              refine lv_iload_n hx hb d_M_nearest_113 rfl (lv_at hl 5 rfl) ?_
              refine lv_istore_n (lv' := [(3, .int q.2), (2, .int q.1), (8, .int 0), (7, .int (m_tr g (k / 40) (k / 2 % 20) (k % 2))), (6, .int (nI (k / 2 % 20))), (5, .int (nI (k / 40))), (4, .int (nI k)), (0, .ref o), (1, .int x)]) hx hb d_M_nearest_114 rfl hl (by decide) rfl (fun ls hl => ?_)
              have hq : (q.1, q.2) = mns g k q := by
                simp only [mns, c_55, c_75, c_81, ↓reduceIte]
              refine lv_iinc (v := nI (k + 1)) (lv' := [(4, .int (nI (k + 1))), (3, .int q.2), (2, .int q.1), (8, .int 0), (7, .int (m_tr g (k / 40) (k / 2 % 20) (k % 2))), (6, .int (nI (k / 2 % 20))), (5, .int (nI (k / 40))), (0, .ref o), (1, .int x)]) hx hb d_M_nearest_115 hl (k := 6) rfl (nI_1 k) (by decide) rfl (fun ls hl => ?_)
              refine lv_goto (tgt := 20) hx hb d_M_nearest_118 (by decide) ?_
              exact ih (k + 1) (q.1, q.2) (by omega) (by omega) (hE1 _ hq) _ (lv_sub hl [2, 1, 0, 7, 8] rfl)
            · refine lv_iconst (v := 1) hx hb d_M_nearest_84 (by decide) ?_
              refine lv_goto (tgt := 89) hx hb d_M_nearest_85 (by decide) ?_
              refine lv_istore (lv' := [(8, .int 1), (7, .int (m_tr g (k / 40) (k / 2 % 20) (k % 2))), (6, .int (nI (k / 2 % 20))), (5, .int (nI (k / 40))), (2, .int q.1), (3, .int q.2), (4, .int (nI k)), (0, .ref o), (1, .int x)]) hx hb d_M_nearest_89 hl (by decide) rfl (fun ls hl => ?_)
              refine lv_iload hx hb d_M_nearest_91 (lv_at hl 0 rfl) ?_
              refine lv_if_eq (tgt := 101) hx hb d_M_nearest_93 (by decide) (fun q => absurd q (by decide)) (fun _ => ?_)
              refine lv_iload hx hb d_M_nearest_96 (lv_at hl 6 rfl) ?_
              refine lv_goto (tgt := 102) hx hb d_M_nearest_98 (by decide) ?_
              refine lv_istore_n (lv' := [(2, .int (nI k)), (8, .int 1), (7, .int (m_tr g (k / 40) (k / 2 % 20) (k % 2))), (6, .int (nI (k / 2 % 20))), (5, .int (nI (k / 40))), (3, .int q.2), (4, .int (nI k)), (0, .ref o), (1, .int x)]) hx hb d_M_nearest_102 rfl hl (by decide) rfl (fun ls hl => ?_)
              refine lv_iload hx hb d_M_nearest_103 (lv_at hl 1 rfl) ?_
              refine lv_if_eq (tgt := 113) hx hb d_M_nearest_105 (by decide) (fun q => absurd q (by decide)) (fun _ => ?_)
              refine lv_iload hx hb d_M_nearest_108 (lv_at hl 2 rfl) ?_
              refine lv_goto (tgt := 114) hx hb d_M_nearest_110 (by decide) ?_
              refine lv_istore_n (lv' := [(3, .int (m_tr g (k / 40) (k / 2 % 20) (k % 2))), (2, .int (nI k)), (8, .int 1), (7, .int (m_tr g (k / 40) (k / 2 % 20) (k % 2))), (6, .int (nI (k / 2 % 20))), (5, .int (nI (k / 40))), (4, .int (nI k)), (0, .ref o), (1, .int x)]) hx hb d_M_nearest_114 rfl hl (by decide) rfl (fun ls hl => ?_)
              have hq : (nI k, m_tr g (k / 40) (k / 2 % 20) (k % 2)) = mns g k q := by
                simp only [mns, c_55, c_75, c_81, ↓reduceIte]
              refine lv_iinc (v := nI (k + 1)) (lv' := [(4, .int (nI (k + 1))), (3, .int (m_tr g (k / 40) (k / 2 % 20) (k % 2))), (2, .int (nI k)), (8, .int 1), (7, .int (m_tr g (k / 40) (k / 2 % 20) (k % 2))), (6, .int (nI (k / 2 % 20))), (5, .int (nI (k / 40))), (0, .ref o), (1, .int x)]) hx hb d_M_nearest_115 hl (k := 6) rfl (nI_1 k) (by decide) rfl (fun ls hl => ?_)
              refine lv_goto (tgt := 20) hx hb d_M_nearest_118 (by decide) ?_
              exact ih (k + 1) (nI k, m_tr g (k / 40) (k / 2 % 20) (k % 2)) (by omega) (by omega) (hE1 _ hq) _ (lv_sub hl [2, 1, 0, 7, 8] rfl)
  · refine lv_bipush (v := (-2)) hx hb d_M_nearest_9 (by decide) ?_
    exact hret _ _ _ d_M_nearest_11 rfl (by first | (simp only [m_nea, mnx, c_6, ↓reduceIte]; done) | (simp only [m_nea, mnx, c_6, ↓reduceIte]; rfl) | rfl)
end
