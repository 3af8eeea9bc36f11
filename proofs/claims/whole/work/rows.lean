section
-- ===== PART A: goes FIRST, ahead of the names: the tables' words, and 'selects' of the private methods out of them =====
/-- a private method of a class that the tables say can be made, by its rows of tables_1 -/
def lw_okq (q : MethodName × Nat) : Prop := (q.1.cls ≠ "java/lang/invoke/MethodHandle" ∧ q.1.cls ≠ "java/lang/invoke/VarHandle") ∧ Cond.instantiable q.1.cls q.2 ∈ tables_1 ∧ Cond.privateMethod q.1 ∈ tables_1 ∧ Cond.instanceMethod q.1 ∈ tables_1
theorem lw_p0 : lw_okq (⟨"DeltaWindows", "inputRow", "(I)LDeltaWindows$Row;"⟩, 8) := ⟨⟨by decide +kernel, by decide +kernel⟩, List.mem_of_getElem? (i := 14) (by decide +kernel), List.mem_of_getElem? (i := 219) (by decide +kernel), List.mem_of_getElem? (i := 220) (by decide +kernel)⟩
theorem lw_p1 : lw_okq (⟨"DeltaWindows", "anyRow", "(I)LDeltaWindows$Row;"⟩, 8) := ⟨⟨by decide +kernel, by decide +kernel⟩, List.mem_of_getElem? (i := 14) (by decide +kernel), List.mem_of_getElem? (i := 223) (by decide +kernel), List.mem_of_getElem? (i := 224) (by decide +kernel)⟩
theorem lw_p2 : lw_okq (⟨"DeltaWindows$Encoder", "takePiece", "(II)V"⟩, 12) := ⟨⟨by decide +kernel, by decide +kernel⟩, List.mem_of_getElem? (i := 38) (by decide +kernel), List.mem_of_getElem? (i := 281) (by decide +kernel), List.mem_of_getElem? (i := 282) (by decide +kernel)⟩
theorem lw_p3 : lw_okq (⟨"DeltaWindows$Encoder", "findInstructions", "()V"⟩, 12) := ⟨⟨by decide +kernel, by decide +kernel⟩, List.mem_of_getElem? (i := 38) (by decide +kernel), List.mem_of_getElem? (i := 302) (by decide +kernel), List.mem_of_getElem? (i := 303) (by decide +kernel)⟩
theorem lw_p4 : lw_okq (⟨"DeltaWindows$Encoder", "findInstruction", "(I)I"⟩, 12) := ⟨⟨by decide +kernel, by decide +kernel⟩, List.mem_of_getElem? (i := 38) (by decide +kernel), List.mem_of_getElem? (i := 306) (by decide +kernel), List.mem_of_getElem? (i := 307) (by decide +kernel)⟩
theorem lw_p5 : lw_okq (⟨"DeltaWindows$Encoder", "sameBytes", "(I)I"⟩, 12) := ⟨⟨by decide +kernel, by decide +kernel⟩, List.mem_of_getElem? (i := 38) (by decide +kernel), List.mem_of_getElem? (i := 310) (by decide +kernel), List.mem_of_getElem? (i := 311) (by decide +kernel)⟩
theorem lw_p6 : lw_okq (⟨"DeltaWindows$Encoder", "findCopy", "(I)V"⟩, 12) := ⟨⟨by decide +kernel, by decide +kernel⟩, List.mem_of_getElem? (i := 38) (by decide +kernel), List.mem_of_getElem? (i := 314) (by decide +kernel), List.mem_of_getElem? (i := 315) (by decide +kernel)⟩
theorem lw_p7 : lw_okq (⟨"DeltaWindows$Encoder", "writeAddress", "(II)I"⟩, 12) := ⟨⟨by decide +kernel, by decide +kernel⟩, List.mem_of_getElem? (i := 38) (by decide +kernel), List.mem_of_getElem? (i := 322) (by decide +kernel), List.mem_of_getElem? (i := 323) (by decide +kernel)⟩
theorem lw_p8 : lw_okq (⟨"DeltaWindows$Encoder", "chooseCodes", "()V"⟩, 12) := ⟨⟨by decide +kernel, by decide +kernel⟩, List.mem_of_getElem? (i := 38) (by decide +kernel), List.mem_of_getElem? (i := 356) (by decide +kernel), List.mem_of_getElem? (i := 357) (by decide +kernel)⟩
theorem lw_p9 : lw_okq (⟨"DeltaWindows$Encoder", "writeWindow", "()V"⟩, 12) := ⟨⟨by decide +kernel, by decide +kernel⟩, List.mem_of_getElem? (i := 38) (by decide +kernel), List.mem_of_getElem? (i := 397) (by decide +kernel), List.mem_of_getElem? (i := 398) (by decide +kernel)⟩
theorem lw_p10 : lw_okq (⟨"DeltaWindows$Decoder", "readHead", "()Z"⟩, 13) := ⟨⟨by decide +kernel, by decide +kernel⟩, List.mem_of_getElem? (i := 119) (by decide +kernel), List.mem_of_getElem? (i := 421) (by decide +kernel), List.mem_of_getElem? (i := 422) (by decide +kernel)⟩
theorem lw_p11 : lw_okq (⟨"DeltaWindows$Decoder", "readWindowHead", "(I)I"⟩, 13) := ⟨⟨by decide +kernel, by decide +kernel⟩, List.mem_of_getElem? (i := 119) (by decide +kernel), List.mem_of_getElem? (i := 434) (by decide +kernel), List.mem_of_getElem? (i := 435) (by decide +kernel)⟩
theorem lw_p12 : lw_okq (⟨"DeltaWindows$Decoder", "readSegment", "()Z"⟩, 13) := ⟨⟨by decide +kernel, by decide +kernel⟩, List.mem_of_getElem? (i := 119) (by decide +kernel), List.mem_of_getElem? (i := 438) (by decide +kernel), List.mem_of_getElem? (i := 439) (by decide +kernel)⟩
theorem lw_p13 : lw_okq (⟨"DeltaWindows$Decoder", "readParts", "(II)Z"⟩, 13) := ⟨⟨by decide +kernel, by decide +kernel⟩, List.mem_of_getElem? (i := 119) (by decide +kernel), List.mem_of_getElem? (i := 454) (by decide +kernel), List.mem_of_getElem? (i := 455) (by decide +kernel)⟩
theorem lw_p14 : lw_okq (⟨"DeltaWindows$Decoder", "makeWindow", "()Z"⟩, 13) := ⟨⟨by decide +kernel, by decide +kernel⟩, List.mem_of_getElem? (i := 119) (by decide +kernel), List.mem_of_getElem? (i := 458) (by decide +kernel), List.mem_of_getElem? (i := 459) (by decide +kernel)⟩
theorem lw_p15 : lw_okq (⟨"DeltaWindows$Decoder", "follow", "(II)Z"⟩, 13) := ⟨⟨by decide +kernel, by decide +kernel⟩, List.mem_of_getElem? (i := 119) (by decide +kernel), List.mem_of_getElem? (i := 462) (by decide +kernel), List.mem_of_getElem? (i := 463) (by decide +kernel)⟩
def lw_privs_1 : List (MethodName × Nat) := [(⟨"DeltaWindows", "inputRow", "(I)LDeltaWindows$Row;"⟩, 8), (⟨"DeltaWindows", "anyRow", "(I)LDeltaWindows$Row;"⟩, 8), (⟨"DeltaWindows$Encoder", "takePiece", "(II)V"⟩, 12), (⟨"DeltaWindows$Encoder", "findInstructions", "()V"⟩, 12), (⟨"DeltaWindows$Encoder", "findInstruction", "(I)I"⟩, 12), (⟨"DeltaWindows$Encoder", "sameBytes", "(I)I"⟩, 12), (⟨"DeltaWindows$Encoder", "findCopy", "(I)V"⟩, 12), (⟨"DeltaWindows$Encoder", "writeAddress", "(II)I"⟩, 12), (⟨"DeltaWindows$Encoder", "chooseCodes", "()V"⟩, 12), (⟨"DeltaWindows$Encoder", "writeWindow", "()V"⟩, 12), (⟨"DeltaWindows$Decoder", "readHead", "()Z"⟩, 13), (⟨"DeltaWindows$Decoder", "readWindowHead", "(I)I"⟩, 13), (⟨"DeltaWindows$Decoder", "readSegment", "()Z"⟩, 13), (⟨"DeltaWindows$Decoder", "readParts", "(II)Z"⟩, 13), (⟨"DeltaWindows$Decoder", "makeWindow", "()Z"⟩, 13), (⟨"DeltaWindows$Decoder", "follow", "(II)Z"⟩, 13)]
theorem lw_r1 : ∀ q ∈ lw_privs_1, lw_okq q := List.forall_mem_cons.mpr ⟨lw_p0, List.forall_mem_cons.mpr ⟨lw_p1, List.forall_mem_cons.mpr ⟨lw_p2, List.forall_mem_cons.mpr ⟨lw_p3, List.forall_mem_cons.mpr ⟨lw_p4, List.forall_mem_cons.mpr ⟨lw_p5, List.forall_mem_cons.mpr ⟨lw_p6, List.forall_mem_cons.mpr ⟨lw_p7, List.forall_mem_cons.mpr ⟨lw_p8, List.forall_mem_cons.mpr ⟨lw_p9, List.forall_mem_cons.mpr ⟨lw_p10, List.forall_mem_cons.mpr ⟨lw_p11, List.forall_mem_cons.mpr ⟨lw_p12, List.forall_mem_cons.mpr ⟨lw_p13, List.forall_mem_cons.mpr ⟨lw_p14, List.forall_mem_cons.mpr ⟨lw_p15, fun _ h => absurd h List.not_mem_nil⟩⟩⟩⟩⟩⟩⟩⟩⟩⟩⟩⟩⟩⟩⟩⟩
theorem lw_p16 : lw_okq (⟨"DeltaWindows$Decoder", "add", "(I)Z"⟩, 13) := ⟨⟨by decide +kernel, by decide +kernel⟩, List.mem_of_getElem? (i := 119) (by decide +kernel), List.mem_of_getElem? (i := 467) (by decide +kernel), List.mem_of_getElem? (i := 468) (by decide +kernel)⟩
theorem lw_p17 : lw_okq (⟨"DeltaWindows$Decoder", "run", "(I)Z"⟩, 13) := ⟨⟨by decide +kernel, by decide +kernel⟩, List.mem_of_getElem? (i := 119) (by decide +kernel), List.mem_of_getElem? (i := 472) (by decide +kernel), List.mem_of_getElem? (i := 473) (by decide +kernel)⟩
theorem lw_p18 : lw_okq (⟨"DeltaWindows$Decoder", "readAddress", "(I)J"⟩, 13) := ⟨⟨by decide +kernel, by decide +kernel⟩, List.mem_of_getElem? (i := 119) (by decide +kernel), List.mem_of_getElem? (i := 476) (by decide +kernel), List.mem_of_getElem? (i := 477) (by decide +kernel)⟩
theorem lw_p19 : lw_okq (⟨"DeltaWindows$Decoder", "here", "()I"⟩, 13) := ⟨⟨by decide +kernel, by decide +kernel⟩, List.mem_of_getElem? (i := 119) (by decide +kernel), List.mem_of_getElem? (i := 482) (by decide +kernel), List.mem_of_getElem? (i := 483) (by decide +kernel)⟩
theorem lw_p20 : lw_okq (⟨"DeltaWindows$Decoder", "copy", "(IJ)Z"⟩, 13) := ⟨⟨by decide +kernel, by decide +kernel⟩, List.mem_of_getElem? (i := 119) (by decide +kernel), List.mem_of_getElem? (i := 490) (by decide +kernel), List.mem_of_getElem? (i := 491) (by decide +kernel)⟩
theorem lw_p21 : lw_okq (⟨"DeltaWindows$Decoder", "stringAt", "(I)I"⟩, 13) := ⟨⟨by decide +kernel, by decide +kernel⟩, List.mem_of_getElem? (i := 119) (by decide +kernel), List.mem_of_getElem? (i := 494) (by decide +kernel), List.mem_of_getElem? (i := 495) (by decide +kernel)⟩
theorem lw_p22 : lw_okq (⟨"DeltaWindowsModel", "append", "(II)V"⟩, 21) := ⟨⟨by decide +kernel, by decide +kernel⟩, List.mem_of_getElem? (i := 539) (by decide +kernel), List.mem_of_getElem? (i := 619) (by decide +kernel), List.mem_of_getElem? (i := 620) (by decide +kernel)⟩
theorem lw_p23 : lw_okq (⟨"DeltaWindowsModel", "forget", "()V"⟩, 21) := ⟨⟨by decide +kernel, by decide +kernel⟩, List.mem_of_getElem? (i := 539) (by decide +kernel), List.mem_of_getElem? (i := 658) (by decide +kernel), List.mem_of_getElem? (i := 659) (by decide +kernel)⟩
theorem lw_p24 : lw_okq (⟨"DeltaWindowsModel", "window", "(II)V"⟩, 21) := ⟨⟨by decide +kernel, by decide +kernel⟩, List.mem_of_getElem? (i := 539) (by decide +kernel), List.mem_of_getElem? (i := 665) (by decide +kernel), List.mem_of_getElem? (i := 666) (by decide +kernel)⟩
theorem lw_p25 : lw_okq (⟨"DeltaWindowsModel", "findInstructions", "(II)V"⟩, 21) := ⟨⟨by decide +kernel, by decide +kernel⟩, List.mem_of_getElem? (i := 539) (by decide +kernel), List.mem_of_getElem? (i := 669) (by decide +kernel), List.mem_of_getElem? (i := 670) (by decide +kernel)⟩
theorem lw_p26 : lw_okq (⟨"DeltaWindowsModel", "reach", "(IIII)I"⟩, 21) := ⟨⟨by decide +kernel, by decide +kernel⟩, List.mem_of_getElem? (i := 539) (by decide +kernel), List.mem_of_getElem? (i := 673) (by decide +kernel), List.mem_of_getElem? (i := 674) (by decide +kernel)⟩
theorem lw_p27 : lw_okq (⟨"DeltaWindowsModel", "stringAt", "(II)I"⟩, 21) := ⟨⟨by decide +kernel, by decide +kernel⟩, List.mem_of_getElem? (i := 539) (by decide +kernel), List.mem_of_getElem? (i := 677) (by decide +kernel), List.mem_of_getElem? (i := 678) (by decide +kernel)⟩
theorem lw_p28 : lw_okq (⟨"DeltaWindowsModel", "runFrom", "(II)I"⟩, 21) := ⟨⟨by decide +kernel, by decide +kernel⟩, List.mem_of_getElem? (i := 539) (by decide +kernel), List.mem_of_getElem? (i := 681) (by decide +kernel), List.mem_of_getElem? (i := 682) (by decide +kernel)⟩
theorem lw_p29 : lw_okq (⟨"DeltaWindowsModel", "instruct", "(III)V"⟩, 21) := ⟨⟨by decide +kernel, by decide +kernel⟩, List.mem_of_getElem? (i := 539) (by decide +kernel), List.mem_of_getElem? (i := 685) (by decide +kernel), List.mem_of_getElem? (i := 686) (by decide +kernel)⟩
theorem lw_p30 : lw_okq (⟨"DeltaWindowsModel", "write", "(II)V"⟩, 21) := ⟨⟨by decide +kernel, by decide +kernel⟩, List.mem_of_getElem? (i := 539) (by decide +kernel), List.mem_of_getElem? (i := 689) (by decide +kernel), List.mem_of_getElem? (i := 690) (by decide +kernel)⟩
theorem lw_p31 : lw_okq (⟨"DeltaWindowsModel", "copy", "(III)V"⟩, 21) := ⟨⟨by decide +kernel, by decide +kernel⟩, List.mem_of_getElem? (i := 539) (by decide +kernel), List.mem_of_getElem? (i := 693) (by decide +kernel), List.mem_of_getElem? (i := 694) (by decide +kernel)⟩
def lw_privs_2 : List (MethodName × Nat) := [(⟨"DeltaWindows$Decoder", "add", "(I)Z"⟩, 13), (⟨"DeltaWindows$Decoder", "run", "(I)Z"⟩, 13), (⟨"DeltaWindows$Decoder", "readAddress", "(I)J"⟩, 13), (⟨"DeltaWindows$Decoder", "here", "()I"⟩, 13), (⟨"DeltaWindows$Decoder", "copy", "(IJ)Z"⟩, 13), (⟨"DeltaWindows$Decoder", "stringAt", "(I)I"⟩, 13), (⟨"DeltaWindowsModel", "append", "(II)V"⟩, 21), (⟨"DeltaWindowsModel", "forget", "()V"⟩, 21), (⟨"DeltaWindowsModel", "window", "(II)V"⟩, 21), (⟨"DeltaWindowsModel", "findInstructions", "(II)V"⟩, 21), (⟨"DeltaWindowsModel", "reach", "(IIII)I"⟩, 21), (⟨"DeltaWindowsModel", "stringAt", "(II)I"⟩, 21), (⟨"DeltaWindowsModel", "runFrom", "(II)I"⟩, 21), (⟨"DeltaWindowsModel", "instruct", "(III)V"⟩, 21), (⟨"DeltaWindowsModel", "write", "(II)V"⟩, 21), (⟨"DeltaWindowsModel", "copy", "(III)V"⟩, 21)]
theorem lw_r2 : ∀ q ∈ lw_privs_2, lw_okq q := List.forall_mem_cons.mpr ⟨lw_p16, List.forall_mem_cons.mpr ⟨lw_p17, List.forall_mem_cons.mpr ⟨lw_p18, List.forall_mem_cons.mpr ⟨lw_p19, List.forall_mem_cons.mpr ⟨lw_p20, List.forall_mem_cons.mpr ⟨lw_p21, List.forall_mem_cons.mpr ⟨lw_p22, List.forall_mem_cons.mpr ⟨lw_p23, List.forall_mem_cons.mpr ⟨lw_p24, List.forall_mem_cons.mpr ⟨lw_p25, List.forall_mem_cons.mpr ⟨lw_p26, List.forall_mem_cons.mpr ⟨lw_p27, List.forall_mem_cons.mpr ⟨lw_p28, List.forall_mem_cons.mpr ⟨lw_p29, List.forall_mem_cons.mpr ⟨lw_p30, List.forall_mem_cons.mpr ⟨lw_p31, fun _ h => absurd h List.not_mem_nil⟩⟩⟩⟩⟩⟩⟩⟩⟩⟩⟩⟩⟩⟩⟩⟩
theorem lw_p32 : lw_okq (⟨"DeltaWindowsModel", "distance", "(III)I"⟩, 21) := ⟨⟨by decide +kernel, by decide +kernel⟩, List.mem_of_getElem? (i := 539) (by decide +kernel), List.mem_of_getElem? (i := 697) (by decide +kernel), List.mem_of_getElem? (i := 698) (by decide +kernel)⟩
theorem lw_p33 : lw_okq (⟨"DeltaWindowsModel", "writeInteger", "(II)V"⟩, 21) := ⟨⟨by decide +kernel, by decide +kernel⟩, List.mem_of_getElem? (i := 539) (by decide +kernel), List.mem_of_getElem? (i := 701) (by decide +kernel), List.mem_of_getElem? (i := 702) (by decide +kernel)⟩
theorem lw_p34 : lw_okq (⟨"DeltaWindowsModel", "note", "(I)V"⟩, 21) := ⟨⟨by decide +kernel, by decide +kernel⟩, List.mem_of_getElem? (i := 539) (by decide +kernel), List.mem_of_getElem? (i := 711) (by decide +kernel), List.mem_of_getElem? (i := 712) (by decide +kernel)⟩
theorem lw_p35 : lw_okq (⟨"DeltaWindowsModel", "addByte", "(I)V"⟩, 21) := ⟨⟨by decide +kernel, by decide +kernel⟩, List.mem_of_getElem? (i := 539) (by decide +kernel), List.mem_of_getElem? (i := 715) (by decide +kernel), List.mem_of_getElem? (i := 716) (by decide +kernel)⟩
theorem lw_p36 : lw_okq (⟨"DeltaWindowsModel", "writeCodes", "()V"⟩, 21) := ⟨⟨by decide +kernel, by decide +kernel⟩, List.mem_of_getElem? (i := 539) (by decide +kernel), List.mem_of_getElem? (i := 719) (by decide +kernel), List.mem_of_getElem? (i := 720) (by decide +kernel)⟩
theorem lw_p37 : lw_okq (⟨"DeltaWindowsModel", "appendInteger", "(I)V"⟩, 21) := ⟨⟨by decide +kernel, by decide +kernel⟩, List.mem_of_getElem? (i := 539) (by decide +kernel), List.mem_of_getElem? (i := 726) (by decide +kernel), List.mem_of_getElem? (i := 727) (by decide +kernel)⟩
theorem lw_p38 : lw_okq (⟨"DeltaWindowsModel", "show", "(I)V"⟩, 21) := ⟨⟨by decide +kernel, by decide +kernel⟩, List.mem_of_getElem? (i := 539) (by decide +kernel), List.mem_of_getElem? (i := 730) (by decide +kernel), List.mem_of_getElem? (i := 731) (by decide +kernel)⟩
theorem lw_p39 : lw_okq (⟨"DeltaWindowsModel", "next", "(I)I"⟩, 21) := ⟨⟨by decide +kernel, by decide +kernel⟩, List.mem_of_getElem? (i := 539) (by decide +kernel), List.mem_of_getElem? (i := 738) (by decide +kernel), List.mem_of_getElem? (i := 739) (by decide +kernel)⟩
theorem lw_p40 : lw_okq (⟨"DeltaWindowsModel", "readWindow", "(I)I"⟩, 21) := ⟨⟨by decide +kernel, by decide +kernel⟩, List.mem_of_getElem? (i := 539) (by decide +kernel), List.mem_of_getElem? (i := 742) (by decide +kernel), List.mem_of_getElem? (i := 743) (by decide +kernel)⟩
theorem lw_p41 : lw_okq (⟨"DeltaWindowsModel", "readSegment", "()V"⟩, 21) := ⟨⟨by decide +kernel, by decide +kernel⟩, List.mem_of_getElem? (i := 539) (by decide +kernel), List.mem_of_getElem? (i := 746) (by decide +kernel), List.mem_of_getElem? (i := 747) (by decide +kernel)⟩
theorem lw_p42 : lw_okq (⟨"DeltaWindowsModel", "nextInteger", "(I)I"⟩, 21) := ⟨⟨by decide +kernel, by decide +kernel⟩, List.mem_of_getElem? (i := 539) (by decide +kernel), List.mem_of_getElem? (i := 750) (by decide +kernel), List.mem_of_getElem? (i := 751) (by decide +kernel)⟩
theorem lw_p43 : lw_okq (⟨"DeltaWindowsModel", "performAll", "()V"⟩, 21) := ⟨⟨by decide +kernel, by decide +kernel⟩, List.mem_of_getElem? (i := 539) (by decide +kernel), List.mem_of_getElem? (i := 756) (by decide +kernel), List.mem_of_getElem? (i := 757) (by decide +kernel)⟩
theorem lw_p44 : lw_okq (⟨"DeltaWindowsModel", "perform", "(III)V"⟩, 21) := ⟨⟨by decide +kernel, by decide +kernel⟩, List.mem_of_getElem? (i := 539) (by decide +kernel), List.mem_of_getElem? (i := 760) (by decide +kernel), List.mem_of_getElem? (i := 761) (by decide +kernel)⟩
theorem lw_p45 : lw_okq (⟨"DeltaWindowsModel", "made", "()I"⟩, 21) := ⟨⟨by decide +kernel, by decide +kernel⟩, List.mem_of_getElem? (i := 539) (by decide +kernel), List.mem_of_getElem? (i := 764) (by decide +kernel), List.mem_of_getElem? (i := 765) (by decide +kernel)⟩
theorem lw_p46 : lw_okq (⟨"DeltaWindowsModel", "address", "(I)I"⟩, 21) := ⟨⟨by decide +kernel, by decide +kernel⟩, List.mem_of_getElem? (i := 539) (by decide +kernel), List.mem_of_getElem? (i := 768) (by decide +kernel), List.mem_of_getElem? (i := 769) (by decide +kernel)⟩
theorem lw_p47 : lw_okq (⟨"DeltaWindowsModel", "here", "()I"⟩, 21) := ⟨⟨by decide +kernel, by decide +kernel⟩, List.mem_of_getElem? (i := 539) (by decide +kernel), List.mem_of_getElem? (i := 772) (by decide +kernel), List.mem_of_getElem? (i := 773) (by decide +kernel)⟩
def lw_privs_3 : List (MethodName × Nat) := [(⟨"DeltaWindowsModel", "distance", "(III)I"⟩, 21), (⟨"DeltaWindowsModel", "writeInteger", "(II)V"⟩, 21), (⟨"DeltaWindowsModel", "note", "(I)V"⟩, 21), (⟨"DeltaWindowsModel", "addByte", "(I)V"⟩, 21), (⟨"DeltaWindowsModel", "writeCodes", "()V"⟩, 21), (⟨"DeltaWindowsModel", "appendInteger", "(I)V"⟩, 21), (⟨"DeltaWindowsModel", "show", "(I)V"⟩, 21), (⟨"DeltaWindowsModel", "next", "(I)I"⟩, 21), (⟨"DeltaWindowsModel", "readWindow", "(I)I"⟩, 21), (⟨"DeltaWindowsModel", "readSegment", "()V"⟩, 21), (⟨"DeltaWindowsModel", "nextInteger", "(I)I"⟩, 21), (⟨"DeltaWindowsModel", "performAll", "()V"⟩, 21), (⟨"DeltaWindowsModel", "perform", "(III)V"⟩, 21), (⟨"DeltaWindowsModel", "made", "()I"⟩, 21), (⟨"DeltaWindowsModel", "address", "(I)I"⟩, 21), (⟨"DeltaWindowsModel", "here", "()I"⟩, 21)]
theorem lw_r3 : ∀ q ∈ lw_privs_3, lw_okq q := List.forall_mem_cons.mpr ⟨lw_p32, List.forall_mem_cons.mpr ⟨lw_p33, List.forall_mem_cons.mpr ⟨lw_p34, List.forall_mem_cons.mpr ⟨lw_p35, List.forall_mem_cons.mpr ⟨lw_p36, List.forall_mem_cons.mpr ⟨lw_p37, List.forall_mem_cons.mpr ⟨lw_p38, List.forall_mem_cons.mpr ⟨lw_p39, List.forall_mem_cons.mpr ⟨lw_p40, List.forall_mem_cons.mpr ⟨lw_p41, List.forall_mem_cons.mpr ⟨lw_p42, List.forall_mem_cons.mpr ⟨lw_p43, List.forall_mem_cons.mpr ⟨lw_p44, List.forall_mem_cons.mpr ⟨lw_p45, List.forall_mem_cons.mpr ⟨lw_p46, List.forall_mem_cons.mpr ⟨lw_p47, fun _ h => absurd h List.not_mem_nil⟩⟩⟩⟩⟩⟩⟩⟩⟩⟩⟩⟩⟩⟩⟩⟩
theorem lw_p48 : lw_okq (⟨"DeltaWindowsModel", "readString", "(I)I"⟩, 21) := ⟨⟨by decide +kernel, by decide +kernel⟩, List.mem_of_getElem? (i := 539) (by decide +kernel), List.mem_of_getElem? (i := 776) (by decide +kernel), List.mem_of_getElem? (i := 777) (by decide +kernel)⟩
def lw_privs_4 : List (MethodName × Nat) := [(⟨"DeltaWindowsModel", "readString", "(I)I"⟩, 21)]
theorem lw_r4 : ∀ q ∈ lw_privs_4, lw_okq q := List.forall_mem_cons.mpr ⟨lw_p48, fun _ h => absurd h List.not_mem_nil⟩
def lw_privs : List (MethodName × Nat) := lw_privs_1 ++ (lw_privs_2 ++ (lw_privs_3 ++ (lw_privs_4)))
def lw_tbl : List Cond := k2_sels lw_privs ++ tables_1
theorem lw_privs_ok : ∀ q ∈ lw_privs, lw_okq q := by
  show ∀ q ∈ lw_privs_1 ++ (lw_privs_2 ++ (lw_privs_3 ++ (lw_privs_4))), lw_okq q
  exact List.forall_mem_append.mpr ⟨lw_r1, List.forall_mem_append.mpr ⟨lw_r2, List.forall_mem_append.mpr ⟨lw_r3, lw_r4⟩⟩⟩
end
section
/-! ===== BEGIN words of one list among another's, by their places ===== -/
theorem goodIn_r {big : List Cond} (ws : List Cond) (ps : List Nat) (hp : ws = ps.filterMap (fun i => big[i]?)) (h : ws.all goodWord = true) : GoodIn big ws := by
  intro w hw
  have h1 := List.all_eq_true.mp h w hw
  rw [hp] at hw
  obtain ⟨i, -, hi⟩ := List.mem_filterMap.mp hw
  have hm : w ∈ big := by first | exact List.mem_of_getElem? hi | exact List.getElem?_mem hi
  exact ⟨hm, good_of_word h1⟩
theorem goodIn_app {big a b : List Cond} (ha : GoodIn big a) (hb : GoodIn big b) : GoodIn big (a ++ b) := fun w h => (List.mem_append.mp h).elim (ha w) (hb w)
theorem goodIn_ca {big a b : List Cond} {c : Cond} (ha : GoodIn big (c :: a)) (hb : GoodIn big b) : GoodIn big (c :: (a ++ b)) := fun w h => (List.mem_cons.mp h).elim (fun e => ha w (List.mem_cons.mpr (Or.inl e))) (fun h => (List.mem_append.mp h).elim (fun h => ha w (List.mem_cons.mpr (Or.inr h))) (hb w))
theorem goodIn_sub {big ws : List Cond} (hm : ∀ w ∈ ws, w ∈ big) (h : ws.all goodWord = true) : GoodIn big ws := fun w hw => ⟨hm w hw, good_of_word (List.all_eq_true.mp h w hw)⟩
/-! ===== END ===== -/

/-! ===== BEGIN printed: names, fields, word lists, decode rows ===== -/
def RX0 : String := "DeltaWindows$Caches"
def TX0 : u_T := fun k => match k with
  | 0 => ("DeltaWindows$Caches", "near", "[I", true)
  | 1 => ("DeltaWindows$Caches", "same", "[I", true)
  | _ => ("DeltaWindows$Caches", "copies", "I", false)
def tyX0 : Nat → FieldType := fun k => match k with
  | 0 => .array .int
  | 1 => .array .int
  | _ => .int
abbrev wsX00 : List Cond := u_ws RX0 TX0 3
theorem nmX0 : ∀ a, a < 3 → ∀ b, b < 3 → a ≠ b → (TX0 a).2.1 ≠ (TX0 b).2.1 := by decide +kernel
theorem tyX0_ok : ∀ k, k < 3 → parseFieldDescriptor (TX0 k).2.2.1 = some (tyX0 k) := by decide +kernel
abbrev cX0_init : ByteArray := prog_2_method_1_code
def yX0_init : MethodName := ⟨RX0, "<init>", "()V"⟩
abbrev cX0_near : ByteArray := prog_2_method_2_code
def yX0_near : MethodName := ⟨RX0, "near", "(I)I"⟩
abbrev cX0_same : ByteArray := prog_2_method_3_code
def yX0_same : MethodName := ⟨RX0, "same", "(I)I"⟩
abbrev cX0_clear : ByteArray := prog_2_method_4_code
def yX0_clear : MethodName := ⟨RX0, "clear", "()V"⟩
abbrev cX0_learn : ByteArray := prog_2_method_5_code
def yX0_learn : MethodName := ⟨RX0, "learn", "(I)V"⟩
abbrev cX0_leastMode : ByteArray := prog_2_method_6_code
def yX0_leastMode : MethodName := ⟨RX0, "leastMode", "(II)I"⟩
abbrev cX0_integerFor : ByteArray := prog_2_method_7_code
def yX0_integerFor : MethodName := ⟨RX0, "integerFor", "(III)I"⟩
abbrev cX0_addressFor : ByteArray := prog_2_method_8_code
def yX0_addressFor : MethodName := ⟨RX0, "addressFor", "(III)J"⟩
abbrev cX0_become : ByteArray := prog_2_method_9_code
def yX0_become : MethodName := ⟨RX0, "become", "(LDeltaWindows$Caches;)V"⟩
def RX1 : String := "DeltaWindows$Codes"
def TX1 : u_T := fun k => match k with
  | _ => ("", "", "", false)
def tyX1 : Nat → FieldType := fun k => match k with
  | _ => .int
abbrev wsX10 : List Cond := u_ws RX1 TX1 0
theorem nmX1 : ∀ a, a < 0 → ∀ b, b < 0 → a ≠ b → (TX1 a).2.1 ≠ (TX1 b).2.1 := by decide +kernel
theorem tyX1_ok : ∀ k, k < 0 → parseFieldDescriptor (TX1 k).2.2.1 = some (tyX1 k) := by decide +kernel
abbrev cX1_partOf : ByteArray := prog_3_method_2_code
def yX1_partOf : MethodName := ⟨RX1, "partOf", "(II)I"⟩
abbrev cX1_partOfSingle : ByteArray := prog_3_method_3_code
def yX1_partOfSingle : MethodName := ⟨RX1, "partOfSingle", "(II)I"⟩
abbrev cX1_partOfAddCopy : ByteArray := prog_3_method_4_code
def yX1_partOfAddCopy : MethodName := ⟨RX1, "partOfAddCopy", "(IIII)I"⟩
abbrev cX1_partOfCopyAdd : ByteArray := prog_3_method_5_code
def yX1_partOfCopyAdd : MethodName := ⟨RX1, "partOfCopyAdd", "(II)I"⟩
abbrev cX1_single : ByteArray := prog_3_method_6_code
def yX1_single : MethodName := ⟨RX1, "single", "(III)I"⟩
abbrev cX1_addThenCopy : ByteArray := prog_3_method_7_code
def yX1_addThenCopy : MethodName := ⟨RX1, "addThenCopy", "(III)I"⟩
abbrev cX1_copyThenAdd : ByteArray := prog_3_method_8_code
def yX1_copyThenAdd : MethodName := ⟨RX1, "copyThenAdd", "(III)I"⟩
def RX2 : String := "DeltaWindows$Decoder"
def TX2 : u_T := fun k => match k with
  | 0 => ("DeltaWindows$Decoder", "source", "LDeltaWindows$Row;", true)
  | 1 => ("DeltaWindows$Decoder", "made", "LDeltaWindows$Row;", true)
  | 2 => ("DeltaWindows$Decoder", "caches", "LDeltaWindows$Caches;", true)
  | 3 => ("DeltaWindows$Decoder", "whole", "LDeltaWindows$Reader;", true)
  | 4 => ("DeltaWindows$Decoder", "data", "LDeltaWindows$Reader;", true)
  | 5 => ("DeltaWindows$Decoder", "codes", "LDeltaWindows$Reader;", true)
  | 6 => ("DeltaWindows$Decoder", "addresses", "LDeltaWindows$Reader;", true)
  | 7 => ("DeltaWindows$Decoder", "windowsRead", "I", false)
  | 8 => ("DeltaWindows$Decoder", "segment", "LDeltaWindows$Row;", false)
  | 9 => ("DeltaWindows$Decoder", "segmentPlace", "I", false)
  | 10 => ("DeltaWindows$Decoder", "segmentSize", "I", false)
  | 11 => ("DeltaWindows$Decoder", "windowStart", "I", false)
  | _ => ("DeltaWindows$Decoder", "windowEnd", "I", false)
def tyX2 : Nat → FieldType := fun k => match k with
  | 0 => .object "DeltaWindows$Row"
  | 1 => .object "DeltaWindows$Row"
  | 2 => .object "DeltaWindows$Caches"
  | 3 => .object "DeltaWindows$Reader"
  | 4 => .object "DeltaWindows$Reader"
  | 5 => .object "DeltaWindows$Reader"
  | 6 => .object "DeltaWindows$Reader"
  | 7 => .int
  | 8 => .object "DeltaWindows$Row"
  | 9 => .int
  | 10 => .int
  | 11 => .int
  | _ => .int
abbrev wsX20 : List Cond := u_ws RX2 TX2 13
theorem nmX2 : ∀ a, a < 13 → ∀ b, b < 13 → a ≠ b → (TX2 a).2.1 ≠ (TX2 b).2.1 := by decide +kernel
theorem tyX2_ok : ∀ k, k < 13 → parseFieldDescriptor (TX2 k).2.2.1 = some (tyX2 k) := by decide +kernel
abbrev cX2_init : ByteArray := prog_4_method_1_code
def yX2_init : MethodName := ⟨RX2, "<init>", "(LDeltaWindows$Row;LDeltaWindows$Row;)V"⟩
abbrev cX2_readDelta : ByteArray := prog_4_method_2_code
def yX2_readDelta : MethodName := ⟨RX2, "readDelta", "(I)I"⟩
abbrev cX2_readHead : ByteArray := prog_4_method_3_code
def yX2_readHead : MethodName := ⟨RX2, "readHead", "()Z"⟩
abbrev cX2_readWindowHead : ByteArray := prog_4_method_4_code
def yX2_readWindowHead : MethodName := ⟨RX2, "readWindowHead", "(I)I"⟩
abbrev cX2_readSegment : ByteArray := prog_4_method_5_code
def yX2_readSegment : MethodName := ⟨RX2, "readSegment", "()Z"⟩
abbrev cX2_readParts : ByteArray := prog_4_method_6_code
def yX2_readParts : MethodName := ⟨RX2, "readParts", "(II)Z"⟩
abbrev cX2_makeWindow : ByteArray := prog_4_method_7_code
def yX2_makeWindow : MethodName := ⟨RX2, "makeWindow", "()Z"⟩
abbrev cX2_follow : ByteArray := prog_4_method_8_code
def yX2_follow : MethodName := ⟨RX2, "follow", "(II)Z"⟩
abbrev cX2_add : ByteArray := prog_4_method_9_code
def yX2_add : MethodName := ⟨RX2, "add", "(I)Z"⟩
abbrev cX2_run : ByteArray := prog_4_method_10_code
def yX2_run : MethodName := ⟨RX2, "run", "(I)Z"⟩
abbrev cX2_copy : ByteArray := prog_4_method_11_code
def yX2_copy : MethodName := ⟨RX2, "copy", "(IJ)Z"⟩
abbrev cX2_here : ByteArray := prog_4_method_12_code
def yX2_here : MethodName := ⟨RX2, "here", "()I"⟩
abbrev cX2_stringAt : ByteArray := prog_4_method_13_code
def yX2_stringAt : MethodName := ⟨RX2, "stringAt", "(I)I"⟩
abbrev cX2_readAddress : ByteArray := prog_4_method_14_code
def yX2_readAddress : MethodName := ⟨RX2, "readAddress", "(I)J"⟩
def RX3 : String := "DeltaWindows$Encoder"
def TX3 : u_T := fun k => match k with
  | 0 => ("DeltaWindows$Encoder", "source", "LDeltaWindows$Row;", true)
  | 1 => ("DeltaWindows$Encoder", "target", "LDeltaWindows$Row;", true)
  | 2 => ("DeltaWindows$Encoder", "delta", "LDeltaWindows$Row;", true)
  | 3 => ("DeltaWindows$Encoder", "caches", "LDeltaWindows$Caches;", true)
  | 4 => ("DeltaWindows$Encoder", "found", "LDeltaWindows$Instructions;", true)
  | 5 => ("DeltaWindows$Encoder", "string", "LDeltaWindows$Row;", true)
  | 6 => ("DeltaWindows$Encoder", "data", "LDeltaWindows$Row;", true)
  | 7 => ("DeltaWindows$Encoder", "codes", "LDeltaWindows$Row;", true)
  | 8 => ("DeltaWindows$Encoder", "addresses", "LDeltaWindows$Row;", true)
  | 9 => ("DeltaWindows$Encoder", "body", "LDeltaWindows$Row;", true)
  | 10 => ("DeltaWindows$Encoder", "copySize", "I", false)
  | _ => ("DeltaWindows$Encoder", "copyAddress", "I", false)
def tyX3 : Nat → FieldType := fun k => match k with
  | 0 => .object "DeltaWindows$Row"
  | 1 => .object "DeltaWindows$Row"
  | 2 => .object "DeltaWindows$Row"
  | 3 => .object "DeltaWindows$Caches"
  | 4 => .object "DeltaWindows$Instructions"
  | 5 => .object "DeltaWindows$Row"
  | 6 => .object "DeltaWindows$Row"
  | 7 => .object "DeltaWindows$Row"
  | 8 => .object "DeltaWindows$Row"
  | 9 => .object "DeltaWindows$Row"
  | 10 => .int
  | _ => .int
abbrev wsX30 : List Cond := u_ws RX3 TX3 12
theorem nmX3 : ∀ a, a < 12 → ∀ b, b < 12 → a ≠ b → (TX3 a).2.1 ≠ (TX3 b).2.1 := by decide +kernel
theorem tyX3_ok : ∀ k, k < 12 → parseFieldDescriptor (TX3 k).2.2.1 = some (tyX3 k) := by decide +kernel
abbrev cX3_init : ByteArray := prog_5_method_1_code
def yX3_init : MethodName := ⟨RX3, "<init>", "(LDeltaWindows$Row;LDeltaWindows$Row;LDeltaWindows$Row;)V"⟩
abbrev cX3_writeDelta : ByteArray := prog_5_method_2_code
def yX3_writeDelta : MethodName := ⟨RX3, "writeDelta", "(I)V"⟩
abbrev cX3_takePiece : ByteArray := prog_5_method_3_code
def yX3_takePiece : MethodName := ⟨RX3, "takePiece", "(II)V"⟩
abbrev cX3_findInstructions : ByteArray := prog_5_method_4_code
def yX3_findInstructions : MethodName := ⟨RX3, "findInstructions", "()V"⟩
abbrev cX3_findInstruction : ByteArray := prog_5_method_5_code
def yX3_findInstruction : MethodName := ⟨RX3, "findInstruction", "(I)I"⟩
abbrev cX3_sameBytes : ByteArray := prog_5_method_6_code
def yX3_sameBytes : MethodName := ⟨RX3, "sameBytes", "(I)I"⟩
abbrev cX3_findCopy : ByteArray := prog_5_method_7_code
def yX3_findCopy : MethodName := ⟨RX3, "findCopy", "(I)V"⟩
abbrev cX3_writeAddress : ByteArray := prog_5_method_8_code
def yX3_writeAddress : MethodName := ⟨RX3, "writeAddress", "(II)I"⟩
abbrev cX3_chooseCodes : ByteArray := prog_5_method_9_code
def yX3_chooseCodes : MethodName := ⟨RX3, "chooseCodes", "()V"⟩
abbrev cX3_writeWindow : ByteArray := prog_5_method_10_code
def yX3_writeWindow : MethodName := ⟨RX3, "writeWindow", "()V"⟩
def RX4 : String := "DeltaWindows$Instructions"
def TX4 : u_T := fun k => match k with
  | 0 => ("DeltaWindows$Instructions", "kinds", "[I", true)
  | 1 => ("DeltaWindows$Instructions", "sizes", "[I", true)
  | 2 => ("DeltaWindows$Instructions", "modes", "[I", true)
  | _ => ("DeltaWindows$Instructions", "count", "I", false)
def tyX4 : Nat → FieldType := fun k => match k with
  | 0 => .array .int
  | 1 => .array .int
  | 2 => .array .int
  | _ => .int
abbrev wsX40 : List Cond := u_ws RX4 TX4 4
theorem nmX4 : ∀ a, a < 4 → ∀ b, b < 4 → a ≠ b → (TX4 a).2.1 ≠ (TX4 b).2.1 := by decide +kernel
theorem tyX4_ok : ∀ k, k < 4 → parseFieldDescriptor (TX4 k).2.2.1 = some (tyX4 k) := by decide +kernel
abbrev cX4_init : ByteArray := prog_6_method_1_code
def yX4_init : MethodName := ⟨RX4, "<init>", "()V"⟩
abbrev cX4_count : ByteArray := prog_6_method_2_code
def yX4_count : MethodName := ⟨RX4, "count", "()I"⟩
abbrev cX4_clear : ByteArray := prog_6_method_3_code
def yX4_clear : MethodName := ⟨RX4, "clear", "()V"⟩
abbrev cX4_append : ByteArray := prog_6_method_4_code
def yX4_append : MethodName := ⟨RX4, "append", "(III)V"⟩
abbrev cX4_appendAddedByte : ByteArray := prog_6_method_5_code
def yX4_appendAddedByte : MethodName := ⟨RX4, "appendAddedByte", "()V"⟩
abbrev cX4_sizeOf : ByteArray := prog_6_method_6_code
def yX4_sizeOf : MethodName := ⟨RX4, "sizeOf", "(I)I"⟩
abbrev cX4_singleCode : ByteArray := prog_6_method_7_code
def yX4_singleCode : MethodName := ⟨RX4, "singleCode", "(I)I"⟩
abbrev cX4_pairCode : ByteArray := prog_6_method_8_code
def yX4_pairCode : MethodName := ⟨RX4, "pairCode", "(I)I"⟩
def RX5 : String := "DeltaWindows$Reader"
def TX5 : u_T := fun k => match k with
  | 0 => ("DeltaWindows$Reader", "row", "LDeltaWindows$Row;", true)
  | 1 => ("DeltaWindows$Reader", "place", "I", false)
  | _ => ("DeltaWindows$Reader", "end", "I", false)
def tyX5 : Nat → FieldType := fun k => match k with
  | 0 => .object "DeltaWindows$Row"
  | 1 => .int
  | _ => .int
abbrev wsX50 : List Cond := u_ws RX5 TX5 3
theorem nmX5 : ∀ a, a < 3 → ∀ b, b < 3 → a ≠ b → (TX5 a).2.1 ≠ (TX5 b).2.1 := by decide +kernel
theorem tyX5_ok : ∀ k, k < 3 → parseFieldDescriptor (TX5 k).2.2.1 = some (tyX5 k) := by decide +kernel
abbrev cX5_init : ByteArray := prog_7_method_1_code
def yX5_init : MethodName := ⟨RX5, "<init>", "(LDeltaWindows$Row;)V"⟩
abbrev cX5_open : ByteArray := prog_7_method_2_code
def yX5_open : MethodName := ⟨RX5, "open", "(II)V"⟩
abbrev cX5_place : ByteArray := prog_7_method_3_code
def yX5_place : MethodName := ⟨RX5, "place", "()I"⟩
abbrev cX5_left : ByteArray := prog_7_method_4_code
def yX5_left : MethodName := ⟨RX5, "left", "()I"⟩
abbrev cX5_nextByte : ByteArray := prog_7_method_5_code
def yX5_nextByte : MethodName := ⟨RX5, "nextByte", "()I"⟩
abbrev cX5_nextInteger : ByteArray := prog_7_method_6_code
def yX5_nextInteger : MethodName := ⟨RX5, "nextInteger", "()I"⟩
def RX6 : String := "DeltaWindows$Row"
def TX6 : u_T := fun k => match k with
  | 0 => ("DeltaWindows$Row", "bytes", "[I", true)
  | _ => ("DeltaWindows$Row", "count", "I", false)
def tyX6 : Nat → FieldType := fun k => match k with
  | 0 => .array .int
  | _ => .int
abbrev wsX60 : List Cond := u_ws RX6 TX6 2
theorem nmX6 : ∀ a, a < 2 → ∀ b, b < 2 → a ≠ b → (TX6 a).2.1 ≠ (TX6 b).2.1 := by decide +kernel
theorem tyX6_ok : ∀ k, k < 2 → parseFieldDescriptor (TX6 k).2.2.1 = some (tyX6 k) := by decide +kernel
abbrev cX6_init : ByteArray := prog_8_method_1_code
def yX6_init : MethodName := ⟨RX6, "<init>", "(I)V"⟩
abbrev cX6_count : ByteArray := prog_8_method_2_code
def yX6_count : MethodName := ⟨RX6, "count", "()I"⟩
abbrev cX6_room : ByteArray := prog_8_method_3_code
def yX6_room : MethodName := ⟨RX6, "room", "()I"⟩
abbrev cX6_at : ByteArray := prog_8_method_4_code
def yX6_at : MethodName := ⟨RX6, "at", "(I)I"⟩
abbrev cX6_replace : ByteArray := prog_8_method_5_code
def yX6_replace : MethodName := ⟨RX6, "replace", "(II)V"⟩
abbrev cX6_keep : ByteArray := prog_8_method_6_code
def yX6_keep : MethodName := ⟨RX6, "keep", "(I)V"⟩
abbrev cX6_append : ByteArray := prog_8_method_7_code
def yX6_append : MethodName := ⟨RX6, "append", "(I)V"⟩
abbrev cX6_appendRow : ByteArray := prog_8_method_8_code
def yX6_appendRow : MethodName := ⟨RX6, "appendRow", "(LDeltaWindows$Row;)V"⟩
abbrev cX6_appendInteger : ByteArray := prog_8_method_9_code
def yX6_appendInteger : MethodName := ⟨RX6, "appendInteger", "(I)V"⟩
abbrev cX6_become : ByteArray := prog_8_method_10_code
def yX6_become : MethodName := ⟨RX6, "become", "(LDeltaWindows$Row;)V"⟩
def RX7 : String := "DeltaWindows"
def TX7 : u_T := fun k => match k with
  | 0 => ("DeltaWindows", "source", "LDeltaWindows$Row;", true)
  | 1 => ("DeltaWindows", "target", "LDeltaWindows$Row;", true)
  | 2 => ("DeltaWindows", "delta", "LDeltaWindows$Row;", true)
  | 3 => ("DeltaWindows", "output", "LDeltaWindows$Row;", true)
  | 4 => ("DeltaWindows", "encoder", "LDeltaWindows$Encoder;", true)
  | 5 => ("DeltaWindows", "decoder", "LDeltaWindows$Decoder;", true)
  | 6 => ("DeltaWindows", "decoded", "LDeltaWindows$Caches;", true)
  | _ => ("DeltaWindows", "decodedWindows", "I", false)
def tyX7 : Nat → FieldType := fun k => match k with
  | 0 => .object "DeltaWindows$Row"
  | 1 => .object "DeltaWindows$Row"
  | 2 => .object "DeltaWindows$Row"
  | 3 => .object "DeltaWindows$Row"
  | 4 => .object "DeltaWindows$Encoder"
  | 5 => .object "DeltaWindows$Decoder"
  | 6 => .object "DeltaWindows$Caches"
  | _ => .int
abbrev wsX70 : List Cond := u_ws RX7 TX7 8
theorem nmX7 : ∀ a, a < 8 → ∀ b, b < 8 → a ≠ b → (TX7 a).2.1 ≠ (TX7 b).2.1 := by decide +kernel
theorem tyX7_ok : ∀ k, k < 8 → parseFieldDescriptor (TX7 k).2.2.1 = some (tyX7 k) := by decide +kernel
abbrev cX7_init : ByteArray := prog_1_method_1_code
def yX7_init : MethodName := ⟨RX7, "<init>", "()V"⟩
abbrev cX7_put : ByteArray := prog_1_method_2_code
def yX7_put : MethodName := ⟨RX7, "put", "(III)Z"⟩
abbrev cX7_cut : ByteArray := prog_1_method_3_code
def yX7_cut : MethodName := ⟨RX7, "cut", "(II)Z"⟩
abbrev cX7_set : ByteArray := prog_1_method_4_code
def yX7_set : MethodName := ⟨RX7, "set", "(III)Z"⟩
abbrev cX7_encode : ByteArray := prog_1_method_5_code
def yX7_encode : MethodName := ⟨RX7, "encode", "(I)I"⟩
abbrev cX7_decode : ByteArray := prog_1_method_6_code
def yX7_decode : MethodName := ⟨RX7, "decode", "(I)I"⟩
abbrev cX7_length : ByteArray := prog_1_method_7_code
def yX7_length : MethodName := ⟨RX7, "length", "(I)I"⟩
abbrev cX7_byteAt : ByteArray := prog_1_method_8_code
def yX7_byteAt : MethodName := ⟨RX7, "byteAt", "(II)I"⟩
abbrev cX7_code : ByteArray := prog_1_method_9_code
def yX7_code : MethodName := ⟨RX7, "code", "(II)I"⟩
abbrev cX7_cache : ByteArray := prog_1_method_10_code
def yX7_cache : MethodName := ⟨RX7, "cache", "(II)I"⟩
abbrev cX7_windows : ByteArray := prog_1_method_11_code
def yX7_windows : MethodName := ⟨RX7, "windows", "()I"⟩
abbrev cX7_agrees : ByteArray := prog_1_method_12_code
def yX7_agrees : MethodName := ⟨RX7, "agrees", "()Z"⟩
abbrev cX7_isByte : ByteArray := prog_1_method_13_code
def yX7_isByte : MethodName := ⟨RX7, "isByte", "(I)Z"⟩
abbrev cX7_inputRow : ByteArray := prog_1_method_14_code
def yX7_inputRow : MethodName := ⟨RX7, "inputRow", "(I)LDeltaWindows$Row;"⟩
abbrev cX7_anyRow : ByteArray := prog_1_method_15_code
def yX7_anyRow : MethodName := ⟨RX7, "anyRow", "(I)LDeltaWindows$Row;"⟩
def RX8 : String := "DeltaWindowsModel"
def TX8 : u_T := fun k => match k with
  | 0 => ("DeltaWindowsModel", "cell", "[I", false)
  | 1 => ("DeltaWindowsModel", "length", "[I", false)
  | 2 => ("DeltaWindowsModel", "windows", "I", false)
  | 3 => ("DeltaWindowsModel", "near", "[I", false)
  | 4 => ("DeltaWindowsModel", "same", "[I", false)
  | 5 => ("DeltaWindowsModel", "turn", "I", false)
  | 6 => ("DeltaWindowsModel", "shown", "[I", false)
  | 7 => ("DeltaWindowsModel", "many", "I", false)
  | 8 => ("DeltaWindowsModel", "kind", "[I", false)
  | 9 => ("DeltaWindowsModel", "size", "[I", false)
  | 10 => ("DeltaWindowsModel", "mode", "[I", false)
  | 11 => ("DeltaWindowsModel", "section", "[I", false)
  | 12 => ("DeltaWindowsModel", "written", "[I", false)
  | 13 => ("DeltaWindowsModel", "place", "[I", false)
  | 14 => ("DeltaWindowsModel", "stop", "[I", false)
  | 15 => ("DeltaWindowsModel", "bad", "Z", false)
  | 16 => ("DeltaWindowsModel", "segment", "I", false)
  | 17 => ("DeltaWindowsModel", "segmentLength", "I", false)
  | 18 => ("DeltaWindowsModel", "segmentPlace", "I", false)
  | 19 => ("DeltaWindowsModel", "base", "I", false)
  | _ => ("DeltaWindowsModel", "due", "I", false)
def tyX8 : Nat → FieldType := fun k => match k with
  | 0 => .array .int
  | 1 => .array .int
  | 2 => .int
  | 3 => .array .int
  | 4 => .array .int
  | 5 => .int
  | 6 => .array .int
  | 7 => .int
  | 8 => .array .int
  | 9 => .array .int
  | 10 => .array .int
  | 11 => .array .int
  | 12 => .array .int
  | 13 => .array .int
  | 14 => .array .int
  | 15 => .boolean
  | 16 => .int
  | 17 => .int
  | 18 => .int
  | 19 => .int
  | _ => .int
abbrev wsX80 : List Cond := u_ws RX8 TX8 21
theorem nmX8 : ∀ a, a < 21 → ∀ b, b < 21 → a ≠ b → (TX8 a).2.1 ≠ (TX8 b).2.1 := by decide +kernel
theorem tyX8_ok : ∀ k, k < 21 → parseFieldDescriptor (TX8 k).2.2.1 = some (tyX8 k) := by decide +kernel
abbrev cX8_init : ByteArray := prog_10_method_1_code
def yX8_init : MethodName := ⟨RX8, "<init>", "()V"⟩
abbrev cX8_most : ByteArray := prog_10_method_2_code
def yX8_most : MethodName := ⟨RX8, "most", "(I)I"⟩
abbrev cX8_isByte : ByteArray := prog_10_method_3_code
def yX8_isByte : MethodName := ⟨RX8, "isByte", "(I)Z"⟩
abbrev cX8_put : ByteArray := prog_10_method_4_code
def yX8_put : MethodName := ⟨RX8, "put", "(III)Z"⟩
abbrev cX8_append : ByteArray := prog_10_method_5_code
def yX8_append : MethodName := ⟨RX8, "append", "(II)V"⟩
abbrev cX8_cut : ByteArray := prog_10_method_6_code
def yX8_cut : MethodName := ⟨RX8, "cut", "(II)Z"⟩
abbrev cX8_set : ByteArray := prog_10_method_7_code
def yX8_set : MethodName := ⟨RX8, "set", "(III)Z"⟩
abbrev cX8_length : ByteArray := prog_10_method_8_code
def yX8_length : MethodName := ⟨RX8, "length", "(I)I"⟩
abbrev cX8_byteAt : ByteArray := prog_10_method_9_code
def yX8_byteAt : MethodName := ⟨RX8, "byteAt", "(II)I"⟩
abbrev cX8_agrees : ByteArray := prog_10_method_10_code
def yX8_agrees : MethodName := ⟨RX8, "agrees", "()Z"⟩
abbrev cX8_part : ByteArray := prog_10_method_11_code
def yX8_part : MethodName := ⟨RX8, "part", "(II)I"⟩
abbrev cX8_code : ByteArray := prog_10_method_12_code
def yX8_code : MethodName := ⟨RX8, "code", "(II)I"⟩
abbrev cX8_find : ByteArray := prog_10_method_13_code
def yX8_find : MethodName := ⟨RX8, "find", "(IIIIII)I"⟩
abbrev cX8_forget : ByteArray := prog_10_method_14_code
def yX8_forget : MethodName := ⟨RX8, "forget", "()V"⟩
abbrev cX8_note : ByteArray := prog_10_method_15_code
def yX8_note : MethodName := ⟨RX8, "note", "(I)V"⟩
abbrev cX8_show : ByteArray := prog_10_method_16_code
def yX8_show : MethodName := ⟨RX8, "show", "(I)V"⟩
abbrev cX8_cache : ByteArray := prog_10_method_17_code
def yX8_cache : MethodName := ⟨RX8, "cache", "(II)I"⟩
abbrev cX8_write : ByteArray := prog_10_method_18_code
def yX8_write : MethodName := ⟨RX8, "write", "(II)V"⟩
abbrev cX8_bytesOf : ByteArray := prog_10_method_19_code
def yX8_bytesOf : MethodName := ⟨RX8, "bytesOf", "(I)I"⟩
abbrev cX8_byteOf : ByteArray := prog_10_method_20_code
def yX8_byteOf : MethodName := ⟨RX8, "byteOf", "(III)I"⟩
abbrev cX8_writeInteger : ByteArray := prog_10_method_21_code
def yX8_writeInteger : MethodName := ⟨RX8, "writeInteger", "(II)V"⟩
abbrev cX8_appendInteger : ByteArray := prog_10_method_22_code
def yX8_appendInteger : MethodName := ⟨RX8, "appendInteger", "(I)V"⟩
abbrev cX8_stringAt : ByteArray := prog_10_method_23_code
def yX8_stringAt : MethodName := ⟨RX8, "stringAt", "(II)I"⟩
abbrev cX8_reach : ByteArray := prog_10_method_24_code
def yX8_reach : MethodName := ⟨RX8, "reach", "(IIII)I"⟩
abbrev cX8_runFrom : ByteArray := prog_10_method_25_code
def yX8_runFrom : MethodName := ⟨RX8, "runFrom", "(II)I"⟩
abbrev cX8_instruct : ByteArray := prog_10_method_26_code
def yX8_instruct : MethodName := ⟨RX8, "instruct", "(III)V"⟩
abbrev cX8_addByte : ByteArray := prog_10_method_27_code
def yX8_addByte : MethodName := ⟨RX8, "addByte", "(I)V"⟩
abbrev cX8_distance : ByteArray := prog_10_method_28_code
def yX8_distance : MethodName := ⟨RX8, "distance", "(III)I"⟩
abbrev cX8_copy : ByteArray := prog_10_method_29_code
def yX8_copy : MethodName := ⟨RX8, "copy", "(III)V"⟩
abbrev cX8_findInstructions : ByteArray := prog_10_method_30_code
def yX8_findInstructions : MethodName := ⟨RX8, "findInstructions", "(II)V"⟩
abbrev cX8_writeCodes : ByteArray := prog_10_method_31_code
def yX8_writeCodes : MethodName := ⟨RX8, "writeCodes", "()V"⟩
abbrev cX8_window : ByteArray := prog_10_method_32_code
def yX8_window : MethodName := ⟨RX8, "window", "(II)V"⟩
abbrev cX8_head : ByteArray := prog_10_method_33_code
def yX8_head : MethodName := ⟨RX8, "head", "(I)I"⟩
abbrev cX8_encode : ByteArray := prog_10_method_34_code
def yX8_encode : MethodName := ⟨RX8, "encode", "(I)I"⟩
abbrev cX8_next : ByteArray := prog_10_method_35_code
def yX8_next : MethodName := ⟨RX8, "next", "(I)I"⟩
abbrev cX8_nextInteger : ByteArray := prog_10_method_36_code
def yX8_nextInteger : MethodName := ⟨RX8, "nextInteger", "(I)I"⟩
abbrev cX8_made : ByteArray := prog_10_method_37_code
def yX8_made : MethodName := ⟨RX8, "made", "()I"⟩
abbrev cX8_here : ByteArray := prog_10_method_38_code
def yX8_here : MethodName := ⟨RX8, "here", "()I"⟩
abbrev cX8_readString : ByteArray := prog_10_method_39_code
def yX8_readString : MethodName := ⟨RX8, "readString", "(I)I"⟩
abbrev cX8_address : ByteArray := prog_10_method_40_code
def yX8_address : MethodName := ⟨RX8, "address", "(I)I"⟩
abbrev cX8_perform : ByteArray := prog_10_method_41_code
def yX8_perform : MethodName := ⟨RX8, "perform", "(III)V"⟩
abbrev cX8_performAll : ByteArray := prog_10_method_42_code
def yX8_performAll : MethodName := ⟨RX8, "performAll", "()V"⟩
abbrev cX8_readSegment : ByteArray := prog_10_method_43_code
def yX8_readSegment : MethodName := ⟨RX8, "readSegment", "()V"⟩
abbrev cX8_readWindow : ByteArray := prog_10_method_44_code
def yX8_readWindow : MethodName := ⟨RX8, "readWindow", "(I)I"⟩
abbrev cX8_decode : ByteArray := prog_10_method_45_code
def yX8_decode : MethodName := ⟨RX8, "decode", "(I)I"⟩
abbrev cX8_windows : ByteArray := prog_10_method_46_code
def yX8_windows : MethodName := ⟨RX8, "windows", "()I"⟩
def RJ9 : String := "java/lang/Math"
def TJ9 : u_T := fun k => match k with
  | _ => ("", "", "", false)
def tyJ9 : Nat → FieldType := fun k => match k with
  | _ => .int
abbrev wsJ90 : List Cond := u_ws RJ9 TJ9 0
theorem nmJ9 : ∀ a, a < 0 → ∀ b, b < 0 → a ≠ b → (TJ9 a).2.1 ≠ (TJ9 b).2.1 := by decide +kernel
theorem tyJ9_ok : ∀ k, k < 0 → parseFieldDescriptor (TJ9 k).2.2.1 = some (tyJ9 k) := by decide +kernel
abbrev cJ9_floorMod_7cf53 : ByteArray := prog_11_method_50_code
def yJ9_floorMod_7cf53 : MethodName := ⟨RJ9, "floorMod", "(II)I"⟩
abbrev cJ9_max_7cf53 : ByteArray := prog_11_method_65_code
def yJ9_max_7cf53 : MethodName := ⟨RJ9, "max", "(II)I"⟩
abbrev cJ9_min_7cf53 : ByteArray := prog_11_method_69_code
def yJ9_min_7cf53 : MethodName := ⟨RJ9, "min", "(II)I"⟩
def RJ10 : String := "java/lang/System"
def TJ10 : u_T := fun k => match k with
  | _ => ("", "", "", false)
def tyJ10 : Nat → FieldType := fun k => match k with
  | _ => .int
abbrev wsJ100 : List Cond := u_ws RJ10 TJ10 0
theorem nmJ10 : ∀ a, a < 0 → ∀ b, b < 0 → a ≠ b → (TJ10 a).2.1 ≠ (TJ10 b).2.1 := by decide +kernel
theorem tyJ10_ok : ∀ k, k < 0 → parseFieldDescriptor (TJ10 k).2.2.1 = some (tyJ10 k) := by decide +kernel
def RJ7 : String := "java/util/Arrays"
def TJ7 : u_T := fun k => match k with
  | _ => ("", "", "", false)
def tyJ7 : Nat → FieldType := fun k => match k with
  | _ => .int
abbrev wsJ70 : List Cond := u_ws RJ7 TJ7 0
theorem nmJ7 : ∀ a, a < 0 → ∀ b, b < 0 → a ≠ b → (TJ7 a).2.1 ≠ (TJ7 b).2.1 := by decide +kernel
theorem tyJ7_ok : ∀ k, k < 0 → parseFieldDescriptor (TJ7 k).2.2.1 = some (tyJ7 k) := by decide +kernel
abbrev cJ7_fill_53178 : ByteArray := prog_13_method_103_code
def yJ7_fill_53178 : MethodName := ⟨RJ7, "fill", "([II)V"⟩
def RL : String := "DeltaWindowsLaw"
abbrev cL_law : ByteArray := code
def yL_law : MethodName := ⟨RL, "law", "([I)Z"⟩
def wsX0_init : List Cond := .code yX0_init cX0_init 1 none :: ([.methodLink RX0 3 objectInit, .instanceMethod objectInit, .code objectInit ⟨#[0xb1]⟩ 1 none, .arrayClass .int, .fieldLink RX0 9 "DeltaWindows$Caches" "near" "[I", .fieldLink RX0 15 "DeltaWindows$Caches" "same" "[I", .fieldLink RX0 18 "DeltaWindows$Caches" "copies" "I"] ++ wsX00)
def wsX0_near : List Cond := .code yX0_near cX0_near 2 (some .int) :: ([.fieldLink RX0 9 "DeltaWindows$Caches" "near" "[I"] ++ wsX00)
def wsX0_same : List Cond := .code yX0_same cX0_same 2 (some .int) :: ([.fieldLink RX0 15 "DeltaWindows$Caches" "same" "[I"] ++ wsX00)
def wsJ7_fill_53178 : List Cond := .code yJ7_fill_53178 cJ7_fill_53178 4 none :: ([])
def wsX0_clear : List Cond := .code yX0_clear cX0_clear 1 none :: ([.fieldLink RX0 9 "DeltaWindows$Caches" "near" "[I", .fieldLink RX0 15 "DeltaWindows$Caches" "same" "[I", .fieldLink RX0 18 "DeltaWindows$Caches" "copies" "I", .methodLink RX0 22 yJ7_fill_53178, .static yJ7_fill_53178, .initialized RJ7, .code yJ7_fill_53178 cJ7_fill_53178 4 none] ++ wsX00)
def wsJ9_floorMod_7cf53 : List Cond := .code yJ9_floorMod_7cf53 cJ9_floorMod_7cf53 3 (some .int) :: ([])
def wsX0_learn : List Cond := .code yX0_learn cX0_learn 2 none :: ([.fieldLink RX0 9 "DeltaWindows$Caches" "near" "[I", .fieldLink RX0 18 "DeltaWindows$Caches" "copies" "I", .fieldLink RX0 15 "DeltaWindows$Caches" "same" "[I", .methodLink RX0 28 yJ9_floorMod_7cf53, .static yJ9_floorMod_7cf53, .initialized RJ9, .code yJ9_floorMod_7cf53 cJ9_floorMod_7cf53 3 (some .int)] ++ wsX00)
def wsX0_integerFor : List Cond := .code yX0_integerFor cX0_integerFor 4 (some .int) :: ([.fieldLink RX0 9 "DeltaWindows$Caches" "near" "[I"] ++ wsX00)
def wsX0_leastMode : List Cond := .code yX0_leastMode cX0_leastMode 6 (some .int) :: ([.methodLink RX0 34 yX0_integerFor, .instanceMethod yX0_integerFor, .selects RX0 yX0_integerFor yX0_integerFor, .initialized RX0, .code yX0_integerFor cX0_integerFor 4 (some .int), .fieldLink RX0 9 "DeltaWindows$Caches" "near" "[I"] ++ wsX00)
def wsX0_addressFor : List Cond := .code yX0_addressFor cX0_addressFor 4 (some .long) :: ([.fieldLink RX0 9 "DeltaWindows$Caches" "near" "[I"] ++ wsX00)
def wsX0_become : List Cond := .code yX0_become cX0_become 2 none :: ([.fieldLink RX0 9 "DeltaWindows$Caches" "near" "[I", .methodLink RX0 38 arraycopyName, .native arraycopyName, .static arraycopyName, .initialized "java/lang/System", .fieldLink RX0 15 "DeltaWindows$Caches" "same" "[I", .fieldLink RX0 18 "DeltaWindows$Caches" "copies" "I"] ++ wsX00)
def wsX1_partOfSingle : List Cond := .code yX1_partOfSingle cX1_partOfSingle 5 (some .int) :: ([])
def wsX1_partOfAddCopy : List Cond := .code yX1_partOfAddCopy cX1_partOfAddCopy 4 (some .int) :: ([])
def wsX1_partOfCopyAdd : List Cond := .code yX1_partOfCopyAdd cX1_partOfCopyAdd 2 (some .int) :: ([])
def wsX1_partOf : List Cond := .code yX1_partOf cX1_partOf 5 (some .int) :: ([.methodLink RX1 11 yX1_partOfSingle, .static yX1_partOfSingle, .initialized RX1, .code yX1_partOfSingle cX1_partOfSingle 5 (some .int), .methodLink RX1 15 yX1_partOfAddCopy, .static yX1_partOfAddCopy, .code yX1_partOfAddCopy cX1_partOfAddCopy 4 (some .int), .methodLink RX1 19 yX1_partOfCopyAdd, .static yX1_partOfCopyAdd, .code yX1_partOfCopyAdd cX1_partOfCopyAdd 2 (some .int)])
def wsX1_single : List Cond := .code yX1_single cX1_single 5 (some .int) :: ([])
def wsX1_addThenCopy : List Cond := .code yX1_addThenCopy cX1_addThenCopy 4 (some .int) :: ([])
def wsX1_copyThenAdd : List Cond := .code yX1_copyThenAdd cX1_copyThenAdd 3 (some .int) :: ([])
def wsX6_init : List Cond := .code yX6_init cX6_init 2 none :: ([.methodLink RX6 3 objectInit, .instanceMethod objectInit, .code objectInit ⟨#[0xb1]⟩ 1 none, .arrayClass .int, .fieldLink RX6 9 "DeltaWindows$Row" "bytes" "[I", .fieldLink RX6 15 "DeltaWindows$Row" "count" "I"] ++ wsX60)
def wsX5_init : List Cond := .code yX5_init cX5_init 2 none :: ([.methodLink RX5 3 objectInit, .instanceMethod objectInit, .code objectInit ⟨#[0xb1]⟩ 1 none, .fieldLink RX5 9 "DeltaWindows$Reader" "row" "LDeltaWindows$Row;", .fieldLink RX5 15 "DeltaWindows$Reader" "place" "I", .fieldLink RX5 19 "DeltaWindows$Reader" "end" "I"] ++ wsX50)
def wsX2_init_r1 : List Cond := [Cond.methodLink RX2 3 objectInit, Cond.instanceMethod objectInit, Cond.code objectInit ⟨#[0xb1]⟩ 1 none, Cond.fieldLink RX2 9 "DeltaWindows$Decoder" "source" "LDeltaWindows$Row;", Cond.classLink RX2 15 RX6, Cond.instantiable RX6 2, Cond.initialized RX6, Cond.fieldLink RX2 20 "DeltaWindows$Decoder" "made" "LDeltaWindows$Row;", Cond.classLink RX2 23 RX0, Cond.instantiable RX0 3, Cond.initialized RX0, Cond.fieldLink RX2 26 "DeltaWindows$Decoder" "caches" "LDeltaWindows$Caches;", Cond.classLink RX2 30 RX5, Cond.instantiable RX5 3, Cond.initialized RX5, Cond.fieldLink RX2 35 "DeltaWindows$Decoder" "whole" "LDeltaWindows$Reader;", Cond.fieldLink RX2 39 "DeltaWindows$Decoder" "data" "LDeltaWindows$Reader;", Cond.fieldLink RX2 42 "DeltaWindows$Decoder" "codes" "LDeltaWindows$Reader;", Cond.fieldLink RX2 45 "DeltaWindows$Decoder" "addresses" "LDeltaWindows$Reader;", Cond.fieldLink RX2 48 "DeltaWindows$Decoder" "windowsRead" "I", Cond.fieldLink RX2 52 "DeltaWindows$Decoder" "segment" "LDeltaWindows$Row;", Cond.fieldLink RX2 55 "DeltaWindows$Decoder" "segmentPlace" "I", Cond.fieldLink RX2 58 "DeltaWindows$Decoder" "segmentSize" "I", Cond.fieldLink RX2 61 "DeltaWindows$Decoder" "windowStart" "I"]
def wsX2_init_r2 : List Cond := [Cond.fieldLink RX2 64 "DeltaWindows$Decoder" "windowEnd" "I", Cond.methodLink RX2 17 yX6_init, Cond.instanceMethod yX6_init, Cond.code yX6_init cX6_init 2 none, Cond.methodLink RX6 3 objectInit, Cond.arrayClass .int, Cond.fieldLink RX6 9 "DeltaWindows$Row" "bytes" "[I", Cond.fieldLink RX6 15 "DeltaWindows$Row" "count" "I", Cond.methodLink RX2 25 yX0_init, Cond.instanceMethod yX0_init, Cond.code yX0_init cX0_init 1 none, Cond.methodLink RX0 3 objectInit, Cond.fieldLink RX0 9 "DeltaWindows$Caches" "near" "[I", Cond.fieldLink RX0 15 "DeltaWindows$Caches" "same" "[I", Cond.fieldLink RX0 18 "DeltaWindows$Caches" "copies" "I", Cond.methodLink RX2 32 yX5_init, Cond.instanceMethod yX5_init, Cond.code yX5_init cX5_init 2 none, Cond.methodLink RX5 3 objectInit, Cond.fieldLink RX5 9 "DeltaWindows$Reader" "row" "LDeltaWindows$Row;", Cond.fieldLink RX5 15 "DeltaWindows$Reader" "place" "I", Cond.fieldLink RX5 19 "DeltaWindows$Reader" "end" "I"]
def wsX2_init : List Cond := .code yX2_init cX2_init 3 none :: ((wsX2_init_r1 ++ wsX2_init_r2) ++ wsX20 ++ wsX60 ++ wsX00 ++ wsX50)
def wsX6_keep : List Cond := .code yX6_keep cX6_keep 2 none :: ([.fieldLink RX6 15 "DeltaWindows$Row" "count" "I"] ++ wsX60)
def wsX5_open : List Cond := .code yX5_open cX5_open 3 none :: ([.fieldLink RX5 9 "DeltaWindows$Reader" "row" "LDeltaWindows$Row;", .methodLink RX5 27 Lib.Math.min.name, .static Lib.Math.min.name, .initialized "java/lang/Math", .code Lib.Math.min.name Lib.Math.min.code 2 (some .int), .methodLink RX5 33 Lib.Math.max.name, .static Lib.Math.max.name, .code Lib.Math.max.name Lib.Math.max.code 2 (some .int), .fieldLink RX5 15 "DeltaWindows$Reader" "place" "I", .fieldLink RX5 19 "DeltaWindows$Reader" "end" "I"] ++ wsX50 ++ wsX60)
def wsX5_nextByte : List Cond := .code yX5_nextByte cX5_nextByte 2 (some .int) :: ([.fieldLink RX5 15 "DeltaWindows$Reader" "place" "I", .fieldLink RX5 19 "DeltaWindows$Reader" "end" "I", .fieldLink RX5 9 "DeltaWindows$Reader" "row" "LDeltaWindows$Row;"] ++ wsX50 ++ wsX60)
def wsX2_readHead : List Cond := .code yX2_readHead cX2_readHead 5 (some .boolean) :: ([.fieldLink RX2 35 "DeltaWindows$Decoder" "whole" "LDeltaWindows$Reader;", .methodLink RX2 99 yX5_nextByte, .instanceMethod yX5_nextByte, .selects RX5 yX5_nextByte yX5_nextByte, .initialized RX5, .code yX5_nextByte cX5_nextByte 2 (some .int), .fieldLink RX5 15 "DeltaWindows$Reader" "place" "I", .fieldLink RX5 19 "DeltaWindows$Reader" "end" "I", .fieldLink RX5 9 "DeltaWindows$Reader" "row" "LDeltaWindows$Row;"] ++ wsX20 ++ wsX50 ++ wsX60)
def wsX5_left : List Cond := .code yX5_left cX5_left 1 (some .int) :: ([.fieldLink RX5 19 "DeltaWindows$Reader" "end" "I", .fieldLink RX5 15 "DeltaWindows$Reader" "place" "I"] ++ wsX50)
def wsX5_nextInteger : List Cond := .code yX5_nextInteger cX5_nextInteger 5 (some .int) :: ([.constantLong RX5 44 (128), .constantLong RX5 46 (2147483647), .methodLink RX5 40 yX5_nextByte, .instanceMethod yX5_nextByte, .selects RX5 yX5_nextByte yX5_nextByte, .initialized RX5, .code yX5_nextByte cX5_nextByte 2 (some .int), .fieldLink RX5 15 "DeltaWindows$Reader" "place" "I", .fieldLink RX5 19 "DeltaWindows$Reader" "end" "I", .fieldLink RX5 9 "DeltaWindows$Reader" "row" "LDeltaWindows$Row;"] ++ wsX50 ++ wsX60)
def wsX6_count : List Cond := .code yX6_count cX6_count 1 (some .int) :: ([.fieldLink RX6 15 "DeltaWindows$Row" "count" "I"] ++ wsX60)
def wsX2_readSegment_r1 : List Cond := [Cond.fieldLink RX2 35 "DeltaWindows$Decoder" "whole" "LDeltaWindows$Reader;", Cond.fieldLink RX2 20 "DeltaWindows$Decoder" "made" "LDeltaWindows$Row;", Cond.fieldLink RX2 9 "DeltaWindows$Decoder" "source" "LDeltaWindows$Row;", Cond.fieldLink RX2 52 "DeltaWindows$Decoder" "segment" "LDeltaWindows$Row;", Cond.fieldLink RX2 55 "DeltaWindows$Decoder" "segmentPlace" "I", Cond.fieldLink RX2 58 "DeltaWindows$Decoder" "segmentSize" "I", Cond.methodLink RX2 99 yX5_nextByte, Cond.instanceMethod yX5_nextByte, Cond.selects RX5 yX5_nextByte yX5_nextByte, Cond.initialized RX5, Cond.code yX5_nextByte cX5_nextByte 2 (some .int), Cond.fieldLink RX5 15 "DeltaWindows$Reader" "place" "I", Cond.fieldLink RX5 19 "DeltaWindows$Reader" "end" "I", Cond.fieldLink RX5 9 "DeltaWindows$Reader" "row" "LDeltaWindows$Row;", Cond.methodLink RX2 105 yX5_nextInteger, Cond.instanceMethod yX5_nextInteger, Cond.selects RX5 yX5_nextInteger yX5_nextInteger, Cond.code yX5_nextInteger cX5_nextInteger 5 (some .int), Cond.constantLong RX5 44 (128), Cond.constantLong RX5 46 (2147483647), Cond.methodLink RX5 40 yX5_nextByte, Cond.methodLink RX2 92 yX6_count, Cond.instanceMethod yX6_count, Cond.selects RX6 yX6_count yX6_count]
def wsX2_readSegment_r2 : List Cond := [Cond.initialized RX6, Cond.code yX6_count cX6_count 1 (some .int), Cond.fieldLink RX6 15 "DeltaWindows$Row" "count" "I"]
def wsX2_readSegment : List Cond := .code yX2_readSegment cX2_readSegment 4 (some .boolean) :: ((wsX2_readSegment_r1 ++ wsX2_readSegment_r2) ++ wsX20 ++ wsX50 ++ wsX60)
def wsX5_place : List Cond := .code yX5_place cX5_place 1 (some .int) :: ([.fieldLink RX5 15 "DeltaWindows$Reader" "place" "I"] ++ wsX50)
def wsX2_readParts_r1 : List Cond := [Cond.fieldLink RX2 35 "DeltaWindows$Decoder" "whole" "LDeltaWindows$Reader;", Cond.fieldLink RX2 39 "DeltaWindows$Decoder" "data" "LDeltaWindows$Reader;", Cond.fieldLink RX2 42 "DeltaWindows$Decoder" "codes" "LDeltaWindows$Reader;", Cond.fieldLink RX2 45 "DeltaWindows$Decoder" "addresses" "LDeltaWindows$Reader;", Cond.methodLink RX2 99 yX5_nextByte, Cond.instanceMethod yX5_nextByte, Cond.selects RX5 yX5_nextByte yX5_nextByte, Cond.initialized RX5, Cond.code yX5_nextByte cX5_nextByte 2 (some .int), Cond.fieldLink RX5 15 "DeltaWindows$Reader" "place" "I", Cond.fieldLink RX5 19 "DeltaWindows$Reader" "end" "I", Cond.fieldLink RX5 9 "DeltaWindows$Reader" "row" "LDeltaWindows$Row;", Cond.methodLink RX2 105 yX5_nextInteger, Cond.instanceMethod yX5_nextInteger, Cond.selects RX5 yX5_nextInteger yX5_nextInteger, Cond.code yX5_nextInteger cX5_nextInteger 5 (some .int), Cond.constantLong RX5 44 (128), Cond.constantLong RX5 46 (2147483647), Cond.methodLink RX5 40 yX5_nextByte, Cond.methodLink RX2 108 yX5_place, Cond.instanceMethod yX5_place, Cond.selects RX5 yX5_place yX5_place, Cond.code yX5_place cX5_place 1 (some .int), Cond.methodLink RX2 81 yX5_left]
def wsX2_readParts_r2 : List Cond := [Cond.instanceMethod yX5_left, Cond.selects RX5 yX5_left yX5_left, Cond.code yX5_left cX5_left 1 (some .int), Cond.methodLink RX2 73 yX5_open, Cond.instanceMethod yX5_open, Cond.selects RX5 yX5_open yX5_open, Cond.code yX5_open cX5_open 3 none, Cond.methodLink RX5 27 Lib.Math.min.name, Cond.static Lib.Math.min.name, Cond.initialized "java/lang/Math", Cond.code Lib.Math.min.name Lib.Math.min.code 2 (some .int), Cond.methodLink RX5 33 Lib.Math.max.name, Cond.static Lib.Math.max.name, Cond.code Lib.Math.max.name Lib.Math.max.code 2 (some .int)]
def wsX2_readParts : List Cond := .code yX2_readParts cX2_readParts 9 (some .boolean) :: ((wsX2_readParts_r1 ++ wsX2_readParts_r2) ++ wsX20 ++ wsX50 ++ wsX60)
def wsX2_readWindowHead_r1 : List Cond := [Cond.fieldLink RX2 35 "DeltaWindows$Decoder" "whole" "LDeltaWindows$Reader;", Cond.fieldLink RX2 20 "DeltaWindows$Decoder" "made" "LDeltaWindows$Row;", Cond.fieldLink RX2 61 "DeltaWindows$Decoder" "windowStart" "I", Cond.fieldLink RX2 64 "DeltaWindows$Decoder" "windowEnd" "I", Cond.methodLink RX2 102 yX2_readSegment, Cond.instanceMethod yX2_readSegment, Cond.selects RX2 yX2_readSegment yX2_readSegment, Cond.initialized RX2, Cond.code yX2_readSegment cX2_readSegment 4 (some .boolean), Cond.fieldLink RX2 9 "DeltaWindows$Decoder" "source" "LDeltaWindows$Row;", Cond.fieldLink RX2 52 "DeltaWindows$Decoder" "segment" "LDeltaWindows$Row;", Cond.fieldLink RX2 55 "DeltaWindows$Decoder" "segmentPlace" "I", Cond.fieldLink RX2 58 "DeltaWindows$Decoder" "segmentSize" "I", Cond.methodLink RX2 99 yX5_nextByte, Cond.instanceMethod yX5_nextByte, Cond.selects RX5 yX5_nextByte yX5_nextByte, Cond.initialized RX5, Cond.code yX5_nextByte cX5_nextByte 2 (some .int), Cond.fieldLink RX5 15 "DeltaWindows$Reader" "place" "I", Cond.fieldLink RX5 19 "DeltaWindows$Reader" "end" "I", Cond.fieldLink RX5 9 "DeltaWindows$Reader" "row" "LDeltaWindows$Row;", Cond.methodLink RX2 105 yX5_nextInteger, Cond.instanceMethod yX5_nextInteger, Cond.selects RX5 yX5_nextInteger yX5_nextInteger]
def wsX2_readWindowHead_r2 : List Cond := [Cond.code yX5_nextInteger cX5_nextInteger 5 (some .int), Cond.constantLong RX5 44 (128), Cond.constantLong RX5 46 (2147483647), Cond.methodLink RX5 40 yX5_nextByte, Cond.methodLink RX2 92 yX6_count, Cond.instanceMethod yX6_count, Cond.selects RX6 yX6_count yX6_count, Cond.initialized RX6, Cond.code yX6_count cX6_count 1 (some .int), Cond.fieldLink RX6 15 "DeltaWindows$Row" "count" "I", Cond.methodLink RX2 108 yX5_place, Cond.instanceMethod yX5_place, Cond.selects RX5 yX5_place yX5_place, Cond.code yX5_place cX5_place 1 (some .int), Cond.methodLink RX2 111 yX2_readParts, Cond.instanceMethod yX2_readParts, Cond.selects RX2 yX2_readParts yX2_readParts, Cond.code yX2_readParts cX2_readParts 9 (some .boolean), Cond.fieldLink RX2 39 "DeltaWindows$Decoder" "data" "LDeltaWindows$Reader;", Cond.fieldLink RX2 42 "DeltaWindows$Decoder" "codes" "LDeltaWindows$Reader;", Cond.fieldLink RX2 45 "DeltaWindows$Decoder" "addresses" "LDeltaWindows$Reader;", Cond.methodLink RX2 81 yX5_left, Cond.instanceMethod yX5_left, Cond.selects RX5 yX5_left yX5_left]
def wsX2_readWindowHead_r3 : List Cond := [Cond.code yX5_left cX5_left 1 (some .int), Cond.methodLink RX2 73 yX5_open, Cond.instanceMethod yX5_open, Cond.selects RX5 yX5_open yX5_open, Cond.code yX5_open cX5_open 3 none, Cond.methodLink RX5 27 Lib.Math.min.name, Cond.static Lib.Math.min.name, Cond.initialized "java/lang/Math", Cond.code Lib.Math.min.name Lib.Math.min.code 2 (some .int), Cond.methodLink RX5 33 Lib.Math.max.name, Cond.static Lib.Math.max.name, Cond.code Lib.Math.max.name Lib.Math.max.code 2 (some .int)]
def wsX2_readWindowHead : List Cond := .code yX2_readWindowHead cX2_readWindowHead 5 (some .int) :: ((wsX2_readWindowHead_r1 ++ (wsX2_readWindowHead_r2 ++ wsX2_readWindowHead_r3)) ++ wsX20 ++ wsX50 ++ wsX60)
def wsX6_append : List Cond := .code yX6_append cX6_append 2 none :: ([.fieldLink RX6 15 "DeltaWindows$Row" "count" "I", .fieldLink RX6 9 "DeltaWindows$Row" "bytes" "[I"] ++ wsX60)
def wsX2_add : List Cond := .code yX2_add cX2_add 3 (some .boolean) :: ([.fieldLink RX2 39 "DeltaWindows$Decoder" "data" "LDeltaWindows$Reader;", .fieldLink RX2 20 "DeltaWindows$Decoder" "made" "LDeltaWindows$Row;", .methodLink RX2 81 yX5_left, .instanceMethod yX5_left, .selects RX5 yX5_left yX5_left, .initialized RX5, .code yX5_left cX5_left 1 (some .int), .fieldLink RX5 19 "DeltaWindows$Reader" "end" "I", .fieldLink RX5 15 "DeltaWindows$Reader" "place" "I", .methodLink RX2 99 yX5_nextByte, .instanceMethod yX5_nextByte, .selects RX5 yX5_nextByte yX5_nextByte, .code yX5_nextByte cX5_nextByte 2 (some .int), .fieldLink RX5 9 "DeltaWindows$Reader" "row" "LDeltaWindows$Row;", .methodLink RX2 139 yX6_append, .instanceMethod yX6_append, .selects RX6 yX6_append yX6_append, .initialized RX6, .code yX6_append cX6_append 2 none, .fieldLink RX6 15 "DeltaWindows$Row" "count" "I", .fieldLink RX6 9 "DeltaWindows$Row" "bytes" "[I"] ++ wsX20 ++ wsX50 ++ wsX60)
def wsX2_run : List Cond := .code yX2_run cX2_run 4 (some .boolean) :: ([.fieldLink RX2 39 "DeltaWindows$Decoder" "data" "LDeltaWindows$Reader;", .fieldLink RX2 20 "DeltaWindows$Decoder" "made" "LDeltaWindows$Row;", .methodLink RX2 99 yX5_nextByte, .instanceMethod yX5_nextByte, .selects RX5 yX5_nextByte yX5_nextByte, .initialized RX5, .code yX5_nextByte cX5_nextByte 2 (some .int), .fieldLink RX5 15 "DeltaWindows$Reader" "place" "I", .fieldLink RX5 19 "DeltaWindows$Reader" "end" "I", .fieldLink RX5 9 "DeltaWindows$Reader" "row" "LDeltaWindows$Row;", .methodLink RX2 139 yX6_append, .instanceMethod yX6_append, .selects RX6 yX6_append yX6_append, .initialized RX6, .code yX6_append cX6_append 2 none, .fieldLink RX6 15 "DeltaWindows$Row" "count" "I", .fieldLink RX6 9 "DeltaWindows$Row" "bytes" "[I"] ++ wsX20 ++ wsX50 ++ wsX60)
def wsX2_here : List Cond := .code yX2_here cX2_here 1 (some .int) :: ([.fieldLink RX2 58 "DeltaWindows$Decoder" "segmentSize" "I", .fieldLink RX2 20 "DeltaWindows$Decoder" "made" "LDeltaWindows$Row;", .fieldLink RX2 61 "DeltaWindows$Decoder" "windowStart" "I", .methodLink RX2 92 yX6_count, .instanceMethod yX6_count, .selects RX6 yX6_count yX6_count, .initialized RX6, .code yX6_count cX6_count 1 (some .int), .fieldLink RX6 15 "DeltaWindows$Row" "count" "I"] ++ wsX20 ++ wsX60)
def wsX2_readAddress_r1 : List Cond := [Cond.fieldLink RX2 45 "DeltaWindows$Decoder" "addresses" "LDeltaWindows$Reader;", Cond.constantLong RX2 154 (-1), Cond.fieldLink RX2 26 "DeltaWindows$Decoder" "caches" "LDeltaWindows$Caches;", Cond.methodLink RX2 99 yX5_nextByte, Cond.instanceMethod yX5_nextByte, Cond.selects RX5 yX5_nextByte yX5_nextByte, Cond.initialized RX5, Cond.code yX5_nextByte cX5_nextByte 2 (some .int), Cond.fieldLink RX5 15 "DeltaWindows$Reader" "place" "I", Cond.fieldLink RX5 19 "DeltaWindows$Reader" "end" "I", Cond.fieldLink RX5 9 "DeltaWindows$Reader" "row" "LDeltaWindows$Row;", Cond.methodLink RX2 156 yX0_same, Cond.instanceMethod yX0_same, Cond.selects RX0 yX0_same yX0_same, Cond.initialized RX0, Cond.code yX0_same cX0_same 2 (some .int), Cond.fieldLink RX0 15 "DeltaWindows$Caches" "same" "[I", Cond.methodLink RX2 105 yX5_nextInteger, Cond.instanceMethod yX5_nextInteger, Cond.selects RX5 yX5_nextInteger yX5_nextInteger, Cond.code yX5_nextInteger cX5_nextInteger 5 (some .int), Cond.constantLong RX5 44 (128), Cond.constantLong RX5 46 (2147483647), Cond.methodLink RX5 40 yX5_nextByte]
def wsX2_readAddress_r2 : List Cond := [Cond.methodLink RX2 142 yX2_here, Cond.instanceMethod yX2_here, Cond.selects RX2 yX2_here yX2_here, Cond.initialized RX2, Cond.code yX2_here cX2_here 1 (some .int), Cond.fieldLink RX2 58 "DeltaWindows$Decoder" "segmentSize" "I", Cond.fieldLink RX2 20 "DeltaWindows$Decoder" "made" "LDeltaWindows$Row;", Cond.fieldLink RX2 61 "DeltaWindows$Decoder" "windowStart" "I", Cond.methodLink RX2 92 yX6_count, Cond.instanceMethod yX6_count, Cond.selects RX6 yX6_count yX6_count, Cond.initialized RX6, Cond.code yX6_count cX6_count 1 (some .int), Cond.fieldLink RX6 15 "DeltaWindows$Row" "count" "I", Cond.methodLink RX2 159 yX0_addressFor, Cond.instanceMethod yX0_addressFor, Cond.selects RX0 yX0_addressFor yX0_addressFor, Cond.code yX0_addressFor cX0_addressFor 4 (some .long), Cond.fieldLink RX0 9 "DeltaWindows$Caches" "near" "[I"]
def wsX2_readAddress : List Cond := .code yX2_readAddress cX2_readAddress 3 (some .long) :: ((wsX2_readAddress_r1 ++ wsX2_readAddress_r2) ++ wsX20 ++ wsX50 ++ wsX60 ++ wsX00)
def wsX6_at : List Cond := .code yX6_at cX6_at 2 (some .int) :: ([.fieldLink RX6 15 "DeltaWindows$Row" "count" "I", .fieldLink RX6 9 "DeltaWindows$Row" "bytes" "[I"] ++ wsX60)
def wsX2_stringAt : List Cond := .code yX2_stringAt cX2_stringAt 2 (some .int) :: ([.fieldLink RX2 58 "DeltaWindows$Decoder" "segmentSize" "I", .fieldLink RX2 52 "DeltaWindows$Decoder" "segment" "LDeltaWindows$Row;", .fieldLink RX2 55 "DeltaWindows$Decoder" "segmentPlace" "I", .fieldLink RX2 20 "DeltaWindows$Decoder" "made" "LDeltaWindows$Row;", .fieldLink RX2 61 "DeltaWindows$Decoder" "windowStart" "I", .methodLink RX2 151 yX6_at, .instanceMethod yX6_at, .selects RX6 yX6_at yX6_at, .initialized RX6, .code yX6_at cX6_at 2 (some .int), .fieldLink RX6 15 "DeltaWindows$Row" "count" "I", .fieldLink RX6 9 "DeltaWindows$Row" "bytes" "[I"] ++ wsX20 ++ wsX60)
def wsX2_copy_r1 : List Cond := [Cond.fieldLink RX2 20 "DeltaWindows$Decoder" "made" "LDeltaWindows$Row;", Cond.fieldLink RX2 26 "DeltaWindows$Decoder" "caches" "LDeltaWindows$Caches;", Cond.methodLink RX2 142 yX2_here, Cond.instanceMethod yX2_here, Cond.selects RX2 yX2_here yX2_here, Cond.initialized RX2, Cond.code yX2_here cX2_here 1 (some .int), Cond.fieldLink RX2 58 "DeltaWindows$Decoder" "segmentSize" "I", Cond.fieldLink RX2 61 "DeltaWindows$Decoder" "windowStart" "I", Cond.methodLink RX2 92 yX6_count, Cond.instanceMethod yX6_count, Cond.selects RX6 yX6_count yX6_count, Cond.initialized RX6, Cond.code yX6_count cX6_count 1 (some .int), Cond.fieldLink RX6 15 "DeltaWindows$Row" "count" "I", Cond.methodLink RX2 145 yX2_stringAt, Cond.instanceMethod yX2_stringAt, Cond.selects RX2 yX2_stringAt yX2_stringAt, Cond.code yX2_stringAt cX2_stringAt 2 (some .int), Cond.fieldLink RX2 52 "DeltaWindows$Decoder" "segment" "LDeltaWindows$Row;", Cond.fieldLink RX2 55 "DeltaWindows$Decoder" "segmentPlace" "I", Cond.methodLink RX2 151 yX6_at, Cond.instanceMethod yX6_at, Cond.selects RX6 yX6_at yX6_at]
def wsX2_copy_r2 : List Cond := [Cond.code yX6_at cX6_at 2 (some .int), Cond.fieldLink RX6 9 "DeltaWindows$Row" "bytes" "[I", Cond.methodLink RX2 139 yX6_append, Cond.instanceMethod yX6_append, Cond.selects RX6 yX6_append yX6_append, Cond.code yX6_append cX6_append 2 none, Cond.methodLink RX2 148 yX0_learn, Cond.instanceMethod yX0_learn, Cond.selects RX0 yX0_learn yX0_learn, Cond.initialized RX0, Cond.code yX0_learn cX0_learn 2 none, Cond.fieldLink RX0 9 "DeltaWindows$Caches" "near" "[I", Cond.fieldLink RX0 18 "DeltaWindows$Caches" "copies" "I", Cond.fieldLink RX0 15 "DeltaWindows$Caches" "same" "[I", Cond.methodLink RX0 28 yJ9_floorMod_7cf53, Cond.static yJ9_floorMod_7cf53, Cond.initialized RJ9, Cond.code yJ9_floorMod_7cf53 cJ9_floorMod_7cf53 3 (some .int)]
def wsX2_copy : List Cond := .code yX2_copy cX2_copy 5 (some .boolean) :: ((wsX2_copy_r1 ++ wsX2_copy_r2) ++ wsX20 ++ wsX60 ++ wsX00)
def wsX2_follow_r1 : List Cond := [Cond.fieldLink RX2 42 "DeltaWindows$Decoder" "codes" "LDeltaWindows$Reader;", Cond.fieldLink RX2 64 "DeltaWindows$Decoder" "windowEnd" "I", Cond.fieldLink RX2 20 "DeltaWindows$Decoder" "made" "LDeltaWindows$Row;", Cond.methodLink RX2 118 yX1_partOf, Cond.static yX1_partOf, Cond.initialized RX1, Cond.code yX1_partOf cX1_partOf 5 (some .int), Cond.methodLink RX1 11 yX1_partOfSingle, Cond.static yX1_partOfSingle, Cond.code yX1_partOfSingle cX1_partOfSingle 5 (some .int), Cond.methodLink RX1 15 yX1_partOfAddCopy, Cond.static yX1_partOfAddCopy, Cond.code yX1_partOfAddCopy cX1_partOfAddCopy 4 (some .int), Cond.methodLink RX1 19 yX1_partOfCopyAdd, Cond.static yX1_partOfCopyAdd, Cond.code yX1_partOfCopyAdd cX1_partOfCopyAdd 2 (some .int), Cond.methodLink RX2 105 yX5_nextInteger, Cond.instanceMethod yX5_nextInteger, Cond.selects RX5 yX5_nextInteger yX5_nextInteger, Cond.initialized RX5, Cond.code yX5_nextInteger cX5_nextInteger 5 (some .int), Cond.constantLong RX5 44 (128), Cond.constantLong RX5 46 (2147483647), Cond.methodLink RX5 40 yX5_nextByte]
def wsX2_follow_r2 : List Cond := [Cond.instanceMethod yX5_nextByte, Cond.selects RX5 yX5_nextByte yX5_nextByte, Cond.code yX5_nextByte cX5_nextByte 2 (some .int), Cond.fieldLink RX5 15 "DeltaWindows$Reader" "place" "I", Cond.fieldLink RX5 19 "DeltaWindows$Reader" "end" "I", Cond.fieldLink RX5 9 "DeltaWindows$Reader" "row" "LDeltaWindows$Row;", Cond.methodLink RX2 92 yX6_count, Cond.instanceMethod yX6_count, Cond.selects RX6 yX6_count yX6_count, Cond.initialized RX6, Cond.code yX6_count cX6_count 1 (some .int), Cond.fieldLink RX6 15 "DeltaWindows$Row" "count" "I", Cond.methodLink RX2 124 yX2_add, Cond.instanceMethod yX2_add, Cond.selects RX2 yX2_add yX2_add, Cond.initialized RX2, Cond.code yX2_add cX2_add 3 (some .boolean), Cond.fieldLink RX2 39 "DeltaWindows$Decoder" "data" "LDeltaWindows$Reader;", Cond.methodLink RX2 81 yX5_left, Cond.instanceMethod yX5_left, Cond.selects RX5 yX5_left yX5_left, Cond.code yX5_left cX5_left 1 (some .int), Cond.methodLink RX2 99 yX5_nextByte, Cond.methodLink RX2 139 yX6_append]
def wsX2_follow_r3 : List Cond := [Cond.instanceMethod yX6_append, Cond.selects RX6 yX6_append yX6_append, Cond.code yX6_append cX6_append 2 none, Cond.fieldLink RX6 9 "DeltaWindows$Row" "bytes" "[I", Cond.methodLink RX2 128 yX2_run, Cond.instanceMethod yX2_run, Cond.selects RX2 yX2_run yX2_run, Cond.code yX2_run cX2_run 4 (some .boolean), Cond.methodLink RX2 131 yX2_readAddress, Cond.instanceMethod yX2_readAddress, Cond.selects RX2 yX2_readAddress yX2_readAddress, Cond.code yX2_readAddress cX2_readAddress 3 (some .long), Cond.fieldLink RX2 45 "DeltaWindows$Decoder" "addresses" "LDeltaWindows$Reader;", Cond.constantLong RX2 154 (-1), Cond.fieldLink RX2 26 "DeltaWindows$Decoder" "caches" "LDeltaWindows$Caches;", Cond.methodLink RX2 156 yX0_same, Cond.instanceMethod yX0_same, Cond.selects RX0 yX0_same yX0_same, Cond.initialized RX0, Cond.code yX0_same cX0_same 2 (some .int), Cond.fieldLink RX0 15 "DeltaWindows$Caches" "same" "[I", Cond.methodLink RX2 142 yX2_here, Cond.instanceMethod yX2_here, Cond.selects RX2 yX2_here yX2_here]
def wsX2_follow_r4 : List Cond := [Cond.code yX2_here cX2_here 1 (some .int), Cond.fieldLink RX2 58 "DeltaWindows$Decoder" "segmentSize" "I", Cond.fieldLink RX2 61 "DeltaWindows$Decoder" "windowStart" "I", Cond.methodLink RX2 159 yX0_addressFor, Cond.instanceMethod yX0_addressFor, Cond.selects RX0 yX0_addressFor yX0_addressFor, Cond.code yX0_addressFor cX0_addressFor 4 (some .long), Cond.fieldLink RX0 9 "DeltaWindows$Caches" "near" "[I", Cond.methodLink RX2 135 yX2_copy, Cond.instanceMethod yX2_copy, Cond.selects RX2 yX2_copy yX2_copy, Cond.code yX2_copy cX2_copy 5 (some .boolean), Cond.methodLink RX2 145 yX2_stringAt, Cond.instanceMethod yX2_stringAt, Cond.selects RX2 yX2_stringAt yX2_stringAt, Cond.code yX2_stringAt cX2_stringAt 2 (some .int), Cond.fieldLink RX2 52 "DeltaWindows$Decoder" "segment" "LDeltaWindows$Row;", Cond.fieldLink RX2 55 "DeltaWindows$Decoder" "segmentPlace" "I", Cond.methodLink RX2 151 yX6_at, Cond.instanceMethod yX6_at, Cond.selects RX6 yX6_at yX6_at, Cond.code yX6_at cX6_at 2 (some .int), Cond.methodLink RX2 148 yX0_learn, Cond.instanceMethod yX0_learn]
def wsX2_follow_r5 : List Cond := [Cond.selects RX0 yX0_learn yX0_learn, Cond.code yX0_learn cX0_learn 2 none, Cond.fieldLink RX0 18 "DeltaWindows$Caches" "copies" "I", Cond.methodLink RX0 28 yJ9_floorMod_7cf53, Cond.static yJ9_floorMod_7cf53, Cond.initialized RJ9, Cond.code yJ9_floorMod_7cf53 cJ9_floorMod_7cf53 3 (some .int)]
def wsX2_follow : List Cond := .code yX2_follow cX2_follow 4 (some .boolean) :: ((wsX2_follow_r1 ++ (wsX2_follow_r2 ++ (wsX2_follow_r3 ++ (wsX2_follow_r4 ++ wsX2_follow_r5)))) ++ wsX20 ++ wsX50 ++ wsX60 ++ wsX00)
def wsX2_makeWindow_r1 : List Cond := [Cond.fieldLink RX2 26 "DeltaWindows$Decoder" "caches" "LDeltaWindows$Caches;", Cond.fieldLink RX2 42 "DeltaWindows$Decoder" "codes" "LDeltaWindows$Reader;", Cond.fieldLink RX2 20 "DeltaWindows$Decoder" "made" "LDeltaWindows$Row;", Cond.fieldLink RX2 64 "DeltaWindows$Decoder" "windowEnd" "I", Cond.fieldLink RX2 39 "DeltaWindows$Decoder" "data" "LDeltaWindows$Reader;", Cond.fieldLink RX2 45 "DeltaWindows$Decoder" "addresses" "LDeltaWindows$Reader;", Cond.methodLink RX2 70 yX0_clear, Cond.instanceMethod yX0_clear, Cond.selects RX0 yX0_clear yX0_clear, Cond.initialized RX0, Cond.code yX0_clear cX0_clear 1 none, Cond.fieldLink RX0 9 "DeltaWindows$Caches" "near" "[I", Cond.fieldLink RX0 15 "DeltaWindows$Caches" "same" "[I", Cond.fieldLink RX0 18 "DeltaWindows$Caches" "copies" "I", Cond.methodLink RX0 22 yJ7_fill_53178, Cond.static yJ7_fill_53178, Cond.initialized RJ7, Cond.code yJ7_fill_53178 cJ7_fill_53178 4 none, Cond.methodLink RX2 81 yX5_left, Cond.instanceMethod yX5_left, Cond.selects RX5 yX5_left yX5_left, Cond.initialized RX5, Cond.code yX5_left cX5_left 1 (some .int), Cond.fieldLink RX5 19 "DeltaWindows$Reader" "end" "I"]
def wsX2_makeWindow_r2 : List Cond := [Cond.fieldLink RX5 15 "DeltaWindows$Reader" "place" "I", Cond.methodLink RX2 99 yX5_nextByte, Cond.instanceMethod yX5_nextByte, Cond.selects RX5 yX5_nextByte yX5_nextByte, Cond.code yX5_nextByte cX5_nextByte 2 (some .int), Cond.fieldLink RX5 9 "DeltaWindows$Reader" "row" "LDeltaWindows$Row;", Cond.methodLink RX2 115 yX2_follow, Cond.instanceMethod yX2_follow, Cond.selects RX2 yX2_follow yX2_follow, Cond.initialized RX2, Cond.code yX2_follow cX2_follow 4 (some .boolean), Cond.methodLink RX2 118 yX1_partOf, Cond.static yX1_partOf, Cond.initialized RX1, Cond.code yX1_partOf cX1_partOf 5 (some .int), Cond.methodLink RX1 11 yX1_partOfSingle, Cond.static yX1_partOfSingle, Cond.code yX1_partOfSingle cX1_partOfSingle 5 (some .int), Cond.methodLink RX1 15 yX1_partOfAddCopy, Cond.static yX1_partOfAddCopy, Cond.code yX1_partOfAddCopy cX1_partOfAddCopy 4 (some .int), Cond.methodLink RX1 19 yX1_partOfCopyAdd, Cond.static yX1_partOfCopyAdd, Cond.code yX1_partOfCopyAdd cX1_partOfCopyAdd 2 (some .int)]
def wsX2_makeWindow_r3 : List Cond := [Cond.methodLink RX2 105 yX5_nextInteger, Cond.instanceMethod yX5_nextInteger, Cond.selects RX5 yX5_nextInteger yX5_nextInteger, Cond.code yX5_nextInteger cX5_nextInteger 5 (some .int), Cond.constantLong RX5 44 (128), Cond.constantLong RX5 46 (2147483647), Cond.methodLink RX5 40 yX5_nextByte, Cond.methodLink RX2 92 yX6_count, Cond.instanceMethod yX6_count, Cond.selects RX6 yX6_count yX6_count, Cond.initialized RX6, Cond.code yX6_count cX6_count 1 (some .int), Cond.fieldLink RX6 15 "DeltaWindows$Row" "count" "I", Cond.methodLink RX2 124 yX2_add, Cond.instanceMethod yX2_add, Cond.selects RX2 yX2_add yX2_add, Cond.code yX2_add cX2_add 3 (some .boolean), Cond.methodLink RX2 139 yX6_append, Cond.instanceMethod yX6_append, Cond.selects RX6 yX6_append yX6_append, Cond.code yX6_append cX6_append 2 none, Cond.fieldLink RX6 9 "DeltaWindows$Row" "bytes" "[I", Cond.methodLink RX2 128 yX2_run, Cond.instanceMethod yX2_run]
def wsX2_makeWindow_r4 : List Cond := [Cond.selects RX2 yX2_run yX2_run, Cond.code yX2_run cX2_run 4 (some .boolean), Cond.methodLink RX2 131 yX2_readAddress, Cond.instanceMethod yX2_readAddress, Cond.selects RX2 yX2_readAddress yX2_readAddress, Cond.code yX2_readAddress cX2_readAddress 3 (some .long), Cond.constantLong RX2 154 (-1), Cond.methodLink RX2 156 yX0_same, Cond.instanceMethod yX0_same, Cond.selects RX0 yX0_same yX0_same, Cond.code yX0_same cX0_same 2 (some .int), Cond.methodLink RX2 142 yX2_here, Cond.instanceMethod yX2_here, Cond.selects RX2 yX2_here yX2_here, Cond.code yX2_here cX2_here 1 (some .int), Cond.fieldLink RX2 58 "DeltaWindows$Decoder" "segmentSize" "I", Cond.fieldLink RX2 61 "DeltaWindows$Decoder" "windowStart" "I", Cond.methodLink RX2 159 yX0_addressFor, Cond.instanceMethod yX0_addressFor, Cond.selects RX0 yX0_addressFor yX0_addressFor, Cond.code yX0_addressFor cX0_addressFor 4 (some .long), Cond.methodLink RX2 135 yX2_copy, Cond.instanceMethod yX2_copy, Cond.selects RX2 yX2_copy yX2_copy]
def wsX2_makeWindow_r5 : List Cond := [Cond.code yX2_copy cX2_copy 5 (some .boolean), Cond.methodLink RX2 145 yX2_stringAt, Cond.instanceMethod yX2_stringAt, Cond.selects RX2 yX2_stringAt yX2_stringAt, Cond.code yX2_stringAt cX2_stringAt 2 (some .int), Cond.fieldLink RX2 52 "DeltaWindows$Decoder" "segment" "LDeltaWindows$Row;", Cond.fieldLink RX2 55 "DeltaWindows$Decoder" "segmentPlace" "I", Cond.methodLink RX2 151 yX6_at, Cond.instanceMethod yX6_at, Cond.selects RX6 yX6_at yX6_at, Cond.code yX6_at cX6_at 2 (some .int), Cond.methodLink RX2 148 yX0_learn, Cond.instanceMethod yX0_learn, Cond.selects RX0 yX0_learn yX0_learn, Cond.code yX0_learn cX0_learn 2 none, Cond.methodLink RX0 28 yJ9_floorMod_7cf53, Cond.static yJ9_floorMod_7cf53, Cond.initialized RJ9, Cond.code yJ9_floorMod_7cf53 cJ9_floorMod_7cf53 3 (some .int)]
def wsX2_makeWindow : List Cond := .code yX2_makeWindow cX2_makeWindow 3 (some .boolean) :: ((wsX2_makeWindow_r1 ++ (wsX2_makeWindow_r2 ++ (wsX2_makeWindow_r3 ++ (wsX2_makeWindow_r4 ++ wsX2_makeWindow_r5)))) ++ wsX20 ++ wsX00 ++ wsX50 ++ wsX60)
def wsX2_readDelta_r1 : List Cond := [Cond.fieldLink RX2 20 "DeltaWindows$Decoder" "made" "LDeltaWindows$Row;", Cond.fieldLink RX2 26 "DeltaWindows$Decoder" "caches" "LDeltaWindows$Caches;", Cond.fieldLink RX2 48 "DeltaWindows$Decoder" "windowsRead" "I", Cond.fieldLink RX2 35 "DeltaWindows$Decoder" "whole" "LDeltaWindows$Reader;", Cond.methodLink RX2 67 yX6_keep, Cond.instanceMethod yX6_keep, Cond.selects RX6 yX6_keep yX6_keep, Cond.initialized RX6, Cond.code yX6_keep cX6_keep 2 none, Cond.fieldLink RX6 15 "DeltaWindows$Row" "count" "I", Cond.methodLink RX2 70 yX0_clear, Cond.instanceMethod yX0_clear, Cond.selects RX0 yX0_clear yX0_clear, Cond.initialized RX0, Cond.code yX0_clear cX0_clear 1 none, Cond.fieldLink RX0 9 "DeltaWindows$Caches" "near" "[I", Cond.fieldLink RX0 15 "DeltaWindows$Caches" "same" "[I", Cond.fieldLink RX0 18 "DeltaWindows$Caches" "copies" "I", Cond.methodLink RX0 22 yJ7_fill_53178, Cond.static yJ7_fill_53178, Cond.initialized RJ7, Cond.code yJ7_fill_53178 cJ7_fill_53178 4 none, Cond.methodLink RX2 73 yX5_open, Cond.instanceMethod yX5_open]
def wsX2_readDelta_r2 : List Cond := [Cond.selects RX5 yX5_open yX5_open, Cond.initialized RX5, Cond.code yX5_open cX5_open 3 none, Cond.fieldLink RX5 9 "DeltaWindows$Reader" "row" "LDeltaWindows$Row;", Cond.methodLink RX5 27 Lib.Math.min.name, Cond.static Lib.Math.min.name, Cond.initialized "java/lang/Math", Cond.code Lib.Math.min.name Lib.Math.min.code 2 (some .int), Cond.methodLink RX5 33 Lib.Math.max.name, Cond.static Lib.Math.max.name, Cond.code Lib.Math.max.name Lib.Math.max.code 2 (some .int), Cond.fieldLink RX5 15 "DeltaWindows$Reader" "place" "I", Cond.fieldLink RX5 19 "DeltaWindows$Reader" "end" "I", Cond.methodLink RX2 77 yX2_readHead, Cond.instanceMethod yX2_readHead, Cond.selects RX2 yX2_readHead yX2_readHead, Cond.initialized RX2, Cond.code yX2_readHead cX2_readHead 5 (some .boolean), Cond.methodLink RX2 99 yX5_nextByte, Cond.instanceMethod yX5_nextByte, Cond.selects RX5 yX5_nextByte yX5_nextByte, Cond.code yX5_nextByte cX5_nextByte 2 (some .int), Cond.methodLink RX2 81 yX5_left, Cond.instanceMethod yX5_left]
def wsX2_readDelta_r3 : List Cond := [Cond.selects RX5 yX5_left yX5_left, Cond.code yX5_left cX5_left 1 (some .int), Cond.methodLink RX2 85 yX2_readWindowHead, Cond.instanceMethod yX2_readWindowHead, Cond.selects RX2 yX2_readWindowHead yX2_readWindowHead, Cond.code yX2_readWindowHead cX2_readWindowHead 5 (some .int), Cond.fieldLink RX2 61 "DeltaWindows$Decoder" "windowStart" "I", Cond.fieldLink RX2 64 "DeltaWindows$Decoder" "windowEnd" "I", Cond.methodLink RX2 102 yX2_readSegment, Cond.instanceMethod yX2_readSegment, Cond.selects RX2 yX2_readSegment yX2_readSegment, Cond.code yX2_readSegment cX2_readSegment 4 (some .boolean), Cond.fieldLink RX2 9 "DeltaWindows$Decoder" "source" "LDeltaWindows$Row;", Cond.fieldLink RX2 52 "DeltaWindows$Decoder" "segment" "LDeltaWindows$Row;", Cond.fieldLink RX2 55 "DeltaWindows$Decoder" "segmentPlace" "I", Cond.fieldLink RX2 58 "DeltaWindows$Decoder" "segmentSize" "I", Cond.methodLink RX2 105 yX5_nextInteger, Cond.instanceMethod yX5_nextInteger, Cond.selects RX5 yX5_nextInteger yX5_nextInteger, Cond.code yX5_nextInteger cX5_nextInteger 5 (some .int), Cond.constantLong RX5 44 (128), Cond.constantLong RX5 46 (2147483647), Cond.methodLink RX5 40 yX5_nextByte, Cond.methodLink RX2 92 yX6_count]
def wsX2_readDelta_r4 : List Cond := [Cond.instanceMethod yX6_count, Cond.selects RX6 yX6_count yX6_count, Cond.code yX6_count cX6_count 1 (some .int), Cond.methodLink RX2 108 yX5_place, Cond.instanceMethod yX5_place, Cond.selects RX5 yX5_place yX5_place, Cond.code yX5_place cX5_place 1 (some .int), Cond.methodLink RX2 111 yX2_readParts, Cond.instanceMethod yX2_readParts, Cond.selects RX2 yX2_readParts yX2_readParts, Cond.code yX2_readParts cX2_readParts 9 (some .boolean), Cond.fieldLink RX2 39 "DeltaWindows$Decoder" "data" "LDeltaWindows$Reader;", Cond.fieldLink RX2 42 "DeltaWindows$Decoder" "codes" "LDeltaWindows$Reader;", Cond.fieldLink RX2 45 "DeltaWindows$Decoder" "addresses" "LDeltaWindows$Reader;", Cond.methodLink RX2 89 yX2_makeWindow, Cond.instanceMethod yX2_makeWindow, Cond.selects RX2 yX2_makeWindow yX2_makeWindow, Cond.code yX2_makeWindow cX2_makeWindow 3 (some .boolean), Cond.methodLink RX2 115 yX2_follow, Cond.instanceMethod yX2_follow, Cond.selects RX2 yX2_follow yX2_follow, Cond.code yX2_follow cX2_follow 4 (some .boolean), Cond.methodLink RX2 118 yX1_partOf, Cond.static yX1_partOf]
def wsX2_readDelta_r5 : List Cond := [Cond.initialized RX1, Cond.code yX1_partOf cX1_partOf 5 (some .int), Cond.methodLink RX1 11 yX1_partOfSingle, Cond.static yX1_partOfSingle, Cond.code yX1_partOfSingle cX1_partOfSingle 5 (some .int), Cond.methodLink RX1 15 yX1_partOfAddCopy, Cond.static yX1_partOfAddCopy, Cond.code yX1_partOfAddCopy cX1_partOfAddCopy 4 (some .int), Cond.methodLink RX1 19 yX1_partOfCopyAdd, Cond.static yX1_partOfCopyAdd, Cond.code yX1_partOfCopyAdd cX1_partOfCopyAdd 2 (some .int), Cond.methodLink RX2 124 yX2_add, Cond.instanceMethod yX2_add, Cond.selects RX2 yX2_add yX2_add, Cond.code yX2_add cX2_add 3 (some .boolean), Cond.methodLink RX2 139 yX6_append, Cond.instanceMethod yX6_append, Cond.selects RX6 yX6_append yX6_append, Cond.code yX6_append cX6_append 2 none, Cond.fieldLink RX6 9 "DeltaWindows$Row" "bytes" "[I", Cond.methodLink RX2 128 yX2_run, Cond.instanceMethod yX2_run, Cond.selects RX2 yX2_run yX2_run, Cond.code yX2_run cX2_run 4 (some .boolean)]
def wsX2_readDelta_r6 : List Cond := [Cond.methodLink RX2 131 yX2_readAddress, Cond.instanceMethod yX2_readAddress, Cond.selects RX2 yX2_readAddress yX2_readAddress, Cond.code yX2_readAddress cX2_readAddress 3 (some .long), Cond.constantLong RX2 154 (-1), Cond.methodLink RX2 156 yX0_same, Cond.instanceMethod yX0_same, Cond.selects RX0 yX0_same yX0_same, Cond.code yX0_same cX0_same 2 (some .int), Cond.methodLink RX2 142 yX2_here, Cond.instanceMethod yX2_here, Cond.selects RX2 yX2_here yX2_here, Cond.code yX2_here cX2_here 1 (some .int), Cond.methodLink RX2 159 yX0_addressFor, Cond.instanceMethod yX0_addressFor, Cond.selects RX0 yX0_addressFor yX0_addressFor, Cond.code yX0_addressFor cX0_addressFor 4 (some .long), Cond.methodLink RX2 135 yX2_copy, Cond.instanceMethod yX2_copy, Cond.selects RX2 yX2_copy yX2_copy, Cond.code yX2_copy cX2_copy 5 (some .boolean), Cond.methodLink RX2 145 yX2_stringAt, Cond.instanceMethod yX2_stringAt, Cond.selects RX2 yX2_stringAt yX2_stringAt]
def wsX2_readDelta_r7 : List Cond := [Cond.code yX2_stringAt cX2_stringAt 2 (some .int), Cond.methodLink RX2 151 yX6_at, Cond.instanceMethod yX6_at, Cond.selects RX6 yX6_at yX6_at, Cond.code yX6_at cX6_at 2 (some .int), Cond.methodLink RX2 148 yX0_learn, Cond.instanceMethod yX0_learn, Cond.selects RX0 yX0_learn yX0_learn, Cond.code yX0_learn cX0_learn 2 none, Cond.methodLink RX0 28 yJ9_floorMod_7cf53, Cond.static yJ9_floorMod_7cf53, Cond.initialized RJ9, Cond.code yJ9_floorMod_7cf53 cJ9_floorMod_7cf53 3 (some .int)]
def wsX2_readDelta : List Cond := .code yX2_readDelta cX2_readDelta 4 (some .int) :: ((wsX2_readDelta_r1 ++ (wsX2_readDelta_r2 ++ (wsX2_readDelta_r3 ++ (wsX2_readDelta_r4 ++ (wsX2_readDelta_r5 ++ (wsX2_readDelta_r6 ++ wsX2_readDelta_r7)))))) ++ wsX20 ++ wsX60 ++ wsX00 ++ wsX50)
def wsX4_init : List Cond := .code yX4_init cX4_init 1 none :: ([.methodLink RX4 3 objectInit, .instanceMethod objectInit, .code objectInit ⟨#[0xb1]⟩ 1 none, .arrayClass .int, .fieldLink RX4 9 "DeltaWindows$Instructions" "kinds" "[I", .fieldLink RX4 15 "DeltaWindows$Instructions" "sizes" "[I", .fieldLink RX4 18 "DeltaWindows$Instructions" "modes" "[I", .fieldLink RX4 21 "DeltaWindows$Instructions" "count" "I"] ++ wsX40)
def wsX3_init_r1 : List Cond := [Cond.methodLink RX3 3 objectInit, Cond.instanceMethod objectInit, Cond.code objectInit ⟨#[0xb1]⟩ 1 none, Cond.fieldLink RX3 9 "DeltaWindows$Encoder" "source" "LDeltaWindows$Row;", Cond.fieldLink RX3 15 "DeltaWindows$Encoder" "target" "LDeltaWindows$Row;", Cond.fieldLink RX3 18 "DeltaWindows$Encoder" "delta" "LDeltaWindows$Row;", Cond.classLink RX3 21 RX0, Cond.instantiable RX0 3, Cond.initialized RX0, Cond.fieldLink RX3 24 "DeltaWindows$Encoder" "caches" "LDeltaWindows$Caches;", Cond.classLink RX3 28 RX4, Cond.instantiable RX4 4, Cond.initialized RX4, Cond.fieldLink RX3 31 "DeltaWindows$Encoder" "found" "LDeltaWindows$Instructions;", Cond.classLink RX3 35 RX6, Cond.instantiable RX6 2, Cond.initialized RX6, Cond.fieldLink RX3 40 "DeltaWindows$Encoder" "string" "LDeltaWindows$Row;", Cond.fieldLink RX3 43 "DeltaWindows$Encoder" "data" "LDeltaWindows$Row;", Cond.fieldLink RX3 46 "DeltaWindows$Encoder" "codes" "LDeltaWindows$Row;", Cond.fieldLink RX3 49 "DeltaWindows$Encoder" "addresses" "LDeltaWindows$Row;", Cond.fieldLink RX3 52 "DeltaWindows$Encoder" "body" "LDeltaWindows$Row;", Cond.fieldLink RX3 55 "DeltaWindows$Encoder" "copySize" "I", Cond.fieldLink RX3 59 "DeltaWindows$Encoder" "copyAddress" "I"]
def wsX3_init_r2 : List Cond := [Cond.methodLink RX3 23 yX0_init, Cond.instanceMethod yX0_init, Cond.code yX0_init cX0_init 1 none, Cond.methodLink RX0 3 objectInit, Cond.arrayClass .int, Cond.fieldLink RX0 9 "DeltaWindows$Caches" "near" "[I", Cond.fieldLink RX0 15 "DeltaWindows$Caches" "same" "[I", Cond.fieldLink RX0 18 "DeltaWindows$Caches" "copies" "I", Cond.methodLink RX3 30 yX4_init, Cond.instanceMethod yX4_init, Cond.code yX4_init cX4_init 1 none, Cond.methodLink RX4 3 objectInit, Cond.fieldLink RX4 9 "DeltaWindows$Instructions" "kinds" "[I", Cond.fieldLink RX4 15 "DeltaWindows$Instructions" "sizes" "[I", Cond.fieldLink RX4 18 "DeltaWindows$Instructions" "modes" "[I", Cond.fieldLink RX4 21 "DeltaWindows$Instructions" "count" "I", Cond.methodLink RX3 37 yX6_init, Cond.instanceMethod yX6_init, Cond.code yX6_init cX6_init 2 none, Cond.methodLink RX6 3 objectInit, Cond.fieldLink RX6 9 "DeltaWindows$Row" "bytes" "[I", Cond.fieldLink RX6 15 "DeltaWindows$Row" "count" "I"]
def wsX3_init : List Cond := .code yX3_init cX3_init 4 none :: ((wsX3_init_r1 ++ wsX3_init_r2) ++ wsX30 ++ wsX00 ++ wsX40 ++ wsX60)
def wsX6_appendRow : List Cond := .code yX6_appendRow cX6_appendRow 3 none :: ([.fieldLink RX6 15 "DeltaWindows$Row" "count" "I", .fieldLink RX6 9 "DeltaWindows$Row" "bytes" "[I", .methodLink RX6 19 yX6_append, .instanceMethod yX6_append, .selects RX6 yX6_append yX6_append, .initialized RX6, .code yX6_append cX6_append 2 none] ++ wsX60)
def wsX6_become : List Cond := .code yX6_become cX6_become 2 none :: ([.fieldLink RX6 15 "DeltaWindows$Row" "count" "I", .methodLink RX6 23 yX6_appendRow, .instanceMethod yX6_appendRow, .selects RX6 yX6_appendRow yX6_appendRow, .initialized RX6, .code yX6_appendRow cX6_appendRow 3 none, .fieldLink RX6 9 "DeltaWindows$Row" "bytes" "[I", .methodLink RX6 19 yX6_append, .instanceMethod yX6_append, .selects RX6 yX6_append yX6_append, .code yX6_append cX6_append 2 none] ++ wsX60)
def wsX4_clear : List Cond := .code yX4_clear cX4_clear 1 none :: ([.fieldLink RX4 21 "DeltaWindows$Instructions" "count" "I"] ++ wsX40)
def wsX3_takePiece_r1 : List Cond := [Cond.fieldLink RX3 40 "DeltaWindows$Encoder" "string" "LDeltaWindows$Row;", Cond.fieldLink RX3 9 "DeltaWindows$Encoder" "source" "LDeltaWindows$Row;", Cond.fieldLink RX3 15 "DeltaWindows$Encoder" "target" "LDeltaWindows$Row;", Cond.fieldLink RX3 24 "DeltaWindows$Encoder" "caches" "LDeltaWindows$Caches;", Cond.fieldLink RX3 31 "DeltaWindows$Encoder" "found" "LDeltaWindows$Instructions;", Cond.fieldLink RX3 43 "DeltaWindows$Encoder" "data" "LDeltaWindows$Row;", Cond.fieldLink RX3 46 "DeltaWindows$Encoder" "codes" "LDeltaWindows$Row;", Cond.fieldLink RX3 49 "DeltaWindows$Encoder" "addresses" "LDeltaWindows$Row;", Cond.fieldLink RX3 52 "DeltaWindows$Encoder" "body" "LDeltaWindows$Row;", Cond.methodLink RX3 101 yX6_become, Cond.instanceMethod yX6_become, Cond.selects RX6 yX6_become yX6_become, Cond.initialized RX6, Cond.code yX6_become cX6_become 2 none, Cond.fieldLink RX6 15 "DeltaWindows$Row" "count" "I", Cond.methodLink RX6 23 yX6_appendRow, Cond.instanceMethod yX6_appendRow, Cond.selects RX6 yX6_appendRow yX6_appendRow, Cond.code yX6_appendRow cX6_appendRow 3 none, Cond.fieldLink RX6 9 "DeltaWindows$Row" "bytes" "[I", Cond.methodLink RX6 19 yX6_append, Cond.instanceMethod yX6_append, Cond.selects RX6 yX6_append yX6_append, Cond.code yX6_append cX6_append 2 none]
def wsX3_takePiece_r2 : List Cond := [Cond.methodLink RX3 105 yX6_at, Cond.instanceMethod yX6_at, Cond.selects RX6 yX6_at yX6_at, Cond.code yX6_at cX6_at 2 (some .int), Cond.methodLink RX3 69 yX6_append, Cond.methodLink RX3 72 yX0_clear, Cond.instanceMethod yX0_clear, Cond.selects RX0 yX0_clear yX0_clear, Cond.initialized RX0, Cond.code yX0_clear cX0_clear 1 none, Cond.fieldLink RX0 9 "DeltaWindows$Caches" "near" "[I", Cond.fieldLink RX0 15 "DeltaWindows$Caches" "same" "[I", Cond.fieldLink RX0 18 "DeltaWindows$Caches" "copies" "I", Cond.methodLink RX0 22 yJ7_fill_53178, Cond.static yJ7_fill_53178, Cond.initialized RJ7, Cond.code yJ7_fill_53178 cJ7_fill_53178 4 none, Cond.methodLink RX3 109 yX4_clear, Cond.instanceMethod yX4_clear, Cond.selects RX4 yX4_clear yX4_clear, Cond.initialized RX4, Cond.code yX4_clear cX4_clear 1 none, Cond.fieldLink RX4 21 "DeltaWindows$Instructions" "count" "I", Cond.methodLink RX3 62 yX6_keep]
def wsX3_takePiece_r3 : List Cond := [Cond.instanceMethod yX6_keep, Cond.selects RX6 yX6_keep yX6_keep, Cond.code yX6_keep cX6_keep 2 none]
def wsX3_takePiece : List Cond := .code yX3_takePiece cX3_takePiece 4 none :: ((wsX3_takePiece_r1 ++ (wsX3_takePiece_r2 ++ wsX3_takePiece_r3)) ++ wsX30 ++ wsX60 ++ wsX00 ++ wsX40)
def wsX3_sameBytes : List Cond := .code yX3_sameBytes cX3_sameBytes 3 (some .int) :: ([.fieldLink RX3 40 "DeltaWindows$Encoder" "string" "LDeltaWindows$Row;", .methodLink RX3 75 yX6_count, .instanceMethod yX6_count, .selects RX6 yX6_count yX6_count, .initialized RX6, .code yX6_count cX6_count 1 (some .int), .fieldLink RX6 15 "DeltaWindows$Row" "count" "I", .methodLink RX3 105 yX6_at, .instanceMethod yX6_at, .selects RX6 yX6_at yX6_at, .code yX6_at cX6_at 2 (some .int), .fieldLink RX6 9 "DeltaWindows$Row" "bytes" "[I"] ++ wsX30 ++ wsX60)
def wsX3_findCopy : List Cond := .code yX3_findCopy cX3_findCopy 4 none :: ([.fieldLink RX3 55 "DeltaWindows$Encoder" "copySize" "I", .fieldLink RX3 59 "DeltaWindows$Encoder" "copyAddress" "I", .fieldLink RX3 40 "DeltaWindows$Encoder" "string" "LDeltaWindows$Row;", .methodLink RX3 75 yX6_count, .instanceMethod yX6_count, .selects RX6 yX6_count yX6_count, .initialized RX6, .code yX6_count cX6_count 1 (some .int), .fieldLink RX6 15 "DeltaWindows$Row" "count" "I", .methodLink RX3 105 yX6_at, .instanceMethod yX6_at, .selects RX6 yX6_at yX6_at, .code yX6_at cX6_at 2 (some .int), .fieldLink RX6 9 "DeltaWindows$Row" "bytes" "[I"] ++ wsX30 ++ wsX60)
def wsX4_append : List Cond := .code yX4_append cX4_append 4 none :: ([.fieldLink RX4 21 "DeltaWindows$Instructions" "count" "I", .fieldLink RX4 9 "DeltaWindows$Instructions" "kinds" "[I", .fieldLink RX4 15 "DeltaWindows$Instructions" "sizes" "[I", .fieldLink RX4 18 "DeltaWindows$Instructions" "modes" "[I"] ++ wsX40)
def wsX6_appendInteger : List Cond := .code yX6_appendInteger cX6_appendInteger 4 none :: ([.methodLink RX6 19 yX6_append, .instanceMethod yX6_append, .selects RX6 yX6_append yX6_append, .initialized RX6, .code yX6_append cX6_append 2 none, .fieldLink RX6 15 "DeltaWindows$Row" "count" "I", .fieldLink RX6 9 "DeltaWindows$Row" "bytes" "[I"] ++ wsX60)
def wsX3_writeAddress_r1 : List Cond := [Cond.fieldLink RX3 24 "DeltaWindows$Encoder" "caches" "LDeltaWindows$Caches;", Cond.fieldLink RX3 49 "DeltaWindows$Encoder" "addresses" "LDeltaWindows$Row;", Cond.methodLink RX3 128 yJ9_floorMod_7cf53, Cond.static yJ9_floorMod_7cf53, Cond.initialized RJ9, Cond.code yJ9_floorMod_7cf53 cJ9_floorMod_7cf53 3 (some .int), Cond.methodLink RX3 131 yX0_same, Cond.instanceMethod yX0_same, Cond.selects RX0 yX0_same yX0_same, Cond.initialized RX0, Cond.code yX0_same cX0_same 2 (some .int), Cond.fieldLink RX0 15 "DeltaWindows$Caches" "same" "[I", Cond.methodLink RX3 69 yX6_append, Cond.instanceMethod yX6_append, Cond.selects RX6 yX6_append yX6_append, Cond.initialized RX6, Cond.code yX6_append cX6_append 2 none, Cond.fieldLink RX6 15 "DeltaWindows$Row" "count" "I", Cond.fieldLink RX6 9 "DeltaWindows$Row" "bytes" "[I", Cond.methodLink RX3 134 yX0_leastMode, Cond.instanceMethod yX0_leastMode, Cond.selects RX0 yX0_leastMode yX0_leastMode, Cond.code yX0_leastMode cX0_leastMode 6 (some .int), Cond.methodLink RX0 34 yX0_integerFor]
def wsX3_writeAddress_r2 : List Cond := [Cond.instanceMethod yX0_integerFor, Cond.selects RX0 yX0_integerFor yX0_integerFor, Cond.code yX0_integerFor cX0_integerFor 4 (some .int), Cond.fieldLink RX0 9 "DeltaWindows$Caches" "near" "[I", Cond.methodLink RX3 137 yX0_integerFor, Cond.methodLink RX3 141 yX6_appendInteger, Cond.instanceMethod yX6_appendInteger, Cond.selects RX6 yX6_appendInteger yX6_appendInteger, Cond.code yX6_appendInteger cX6_appendInteger 4 none, Cond.methodLink RX6 19 yX6_append, Cond.methodLink RX3 144 yX0_learn, Cond.instanceMethod yX0_learn, Cond.selects RX0 yX0_learn yX0_learn, Cond.code yX0_learn cX0_learn 2 none, Cond.fieldLink RX0 18 "DeltaWindows$Caches" "copies" "I", Cond.methodLink RX0 28 yJ9_floorMod_7cf53]
def wsX3_writeAddress : List Cond := .code yX3_writeAddress cX3_writeAddress 5 (some .int) :: ((wsX3_writeAddress_r1 ++ wsX3_writeAddress_r2) ++ wsX30 ++ wsX00 ++ wsX60)
def wsX4_appendAddedByte : List Cond := .code yX4_appendAddedByte cX4_appendAddedByte 2 none :: ([.fieldLink RX4 21 "DeltaWindows$Instructions" "count" "I", .fieldLink RX4 9 "DeltaWindows$Instructions" "kinds" "[I", .fieldLink RX4 15 "DeltaWindows$Instructions" "sizes" "[I", .methodLink RX4 25 yX4_append, .instanceMethod yX4_append, .selects RX4 yX4_append yX4_append, .initialized RX4, .code yX4_append cX4_append 4 none, .fieldLink RX4 18 "DeltaWindows$Instructions" "modes" "[I"] ++ wsX40)
def wsX3_findInstruction_r1 : List Cond := [Cond.fieldLink RX3 55 "DeltaWindows$Encoder" "copySize" "I", Cond.fieldLink RX3 31 "DeltaWindows$Encoder" "found" "LDeltaWindows$Instructions;", Cond.fieldLink RX3 43 "DeltaWindows$Encoder" "data" "LDeltaWindows$Row;", Cond.fieldLink RX3 40 "DeltaWindows$Encoder" "string" "LDeltaWindows$Row;", Cond.fieldLink RX3 59 "DeltaWindows$Encoder" "copyAddress" "I", Cond.methodLink RX3 113 yX3_sameBytes, Cond.instanceMethod yX3_sameBytes, Cond.selects RX3 yX3_sameBytes yX3_sameBytes, Cond.initialized RX3, Cond.code yX3_sameBytes cX3_sameBytes 3 (some .int), Cond.methodLink RX3 75 yX6_count, Cond.instanceMethod yX6_count, Cond.selects RX6 yX6_count yX6_count, Cond.initialized RX6, Cond.code yX6_count cX6_count 1 (some .int), Cond.fieldLink RX6 15 "DeltaWindows$Row" "count" "I", Cond.methodLink RX3 105 yX6_at, Cond.instanceMethod yX6_at, Cond.selects RX6 yX6_at yX6_at, Cond.code yX6_at cX6_at 2 (some .int), Cond.fieldLink RX6 9 "DeltaWindows$Row" "bytes" "[I", Cond.methodLink RX3 116 yX3_findCopy, Cond.instanceMethod yX3_findCopy, Cond.selects RX3 yX3_findCopy yX3_findCopy]
def wsX3_findInstruction_r2 : List Cond := [Cond.code yX3_findCopy cX3_findCopy 4 none, Cond.methodLink RX3 119 yX4_append, Cond.instanceMethod yX4_append, Cond.selects RX4 yX4_append yX4_append, Cond.initialized RX4, Cond.code yX4_append cX4_append 4 none, Cond.fieldLink RX4 21 "DeltaWindows$Instructions" "count" "I", Cond.fieldLink RX4 9 "DeltaWindows$Instructions" "kinds" "[I", Cond.fieldLink RX4 15 "DeltaWindows$Instructions" "sizes" "[I", Cond.fieldLink RX4 18 "DeltaWindows$Instructions" "modes" "[I", Cond.methodLink RX3 69 yX6_append, Cond.instanceMethod yX6_append, Cond.selects RX6 yX6_append yX6_append, Cond.code yX6_append cX6_append 2 none, Cond.methodLink RX3 122 yX3_writeAddress, Cond.instanceMethod yX3_writeAddress, Cond.selects RX3 yX3_writeAddress yX3_writeAddress, Cond.code yX3_writeAddress cX3_writeAddress 5 (some .int), Cond.fieldLink RX3 24 "DeltaWindows$Encoder" "caches" "LDeltaWindows$Caches;", Cond.fieldLink RX3 49 "DeltaWindows$Encoder" "addresses" "LDeltaWindows$Row;", Cond.methodLink RX3 128 yJ9_floorMod_7cf53, Cond.static yJ9_floorMod_7cf53, Cond.initialized RJ9, Cond.code yJ9_floorMod_7cf53 cJ9_floorMod_7cf53 3 (some .int)]
def wsX3_findInstruction_r3 : List Cond := [Cond.methodLink RX3 131 yX0_same, Cond.instanceMethod yX0_same, Cond.selects RX0 yX0_same yX0_same, Cond.initialized RX0, Cond.code yX0_same cX0_same 2 (some .int), Cond.fieldLink RX0 15 "DeltaWindows$Caches" "same" "[I", Cond.methodLink RX3 134 yX0_leastMode, Cond.instanceMethod yX0_leastMode, Cond.selects RX0 yX0_leastMode yX0_leastMode, Cond.code yX0_leastMode cX0_leastMode 6 (some .int), Cond.methodLink RX0 34 yX0_integerFor, Cond.instanceMethod yX0_integerFor, Cond.selects RX0 yX0_integerFor yX0_integerFor, Cond.code yX0_integerFor cX0_integerFor 4 (some .int), Cond.fieldLink RX0 9 "DeltaWindows$Caches" "near" "[I", Cond.methodLink RX3 137 yX0_integerFor, Cond.methodLink RX3 141 yX6_appendInteger, Cond.instanceMethod yX6_appendInteger, Cond.selects RX6 yX6_appendInteger yX6_appendInteger, Cond.code yX6_appendInteger cX6_appendInteger 4 none, Cond.methodLink RX6 19 yX6_append, Cond.methodLink RX3 144 yX0_learn, Cond.instanceMethod yX0_learn, Cond.selects RX0 yX0_learn yX0_learn]
def wsX3_findInstruction_r4 : List Cond := [Cond.code yX0_learn cX0_learn 2 none, Cond.fieldLink RX0 18 "DeltaWindows$Caches" "copies" "I", Cond.methodLink RX0 28 yJ9_floorMod_7cf53, Cond.methodLink RX3 125 yX4_appendAddedByte, Cond.instanceMethod yX4_appendAddedByte, Cond.selects RX4 yX4_appendAddedByte yX4_appendAddedByte, Cond.code yX4_appendAddedByte cX4_appendAddedByte 2 none, Cond.methodLink RX4 25 yX4_append]
def wsX3_findInstruction : List Cond := .code yX3_findInstruction cX3_findInstruction 3 (some .int) :: ((wsX3_findInstruction_r1 ++ (wsX3_findInstruction_r2 ++ (wsX3_findInstruction_r3 ++ wsX3_findInstruction_r4))) ++ wsX30 ++ wsX60 ++ wsX40 ++ wsX00)
def wsX3_findInstructions_r1 : List Cond := [Cond.fieldLink RX3 9 "DeltaWindows$Encoder" "source" "LDeltaWindows$Row;", Cond.fieldLink RX3 40 "DeltaWindows$Encoder" "string" "LDeltaWindows$Row;", Cond.methodLink RX3 75 yX6_count, Cond.instanceMethod yX6_count, Cond.selects RX6 yX6_count yX6_count, Cond.initialized RX6, Cond.code yX6_count cX6_count 1 (some .int), Cond.fieldLink RX6 15 "DeltaWindows$Row" "count" "I", Cond.methodLink RX3 110 yX3_findInstruction, Cond.instanceMethod yX3_findInstruction, Cond.selects RX3 yX3_findInstruction yX3_findInstruction, Cond.initialized RX3, Cond.code yX3_findInstruction cX3_findInstruction 3 (some .int), Cond.fieldLink RX3 55 "DeltaWindows$Encoder" "copySize" "I", Cond.fieldLink RX3 31 "DeltaWindows$Encoder" "found" "LDeltaWindows$Instructions;", Cond.fieldLink RX3 43 "DeltaWindows$Encoder" "data" "LDeltaWindows$Row;", Cond.fieldLink RX3 59 "DeltaWindows$Encoder" "copyAddress" "I", Cond.methodLink RX3 113 yX3_sameBytes, Cond.instanceMethod yX3_sameBytes, Cond.selects RX3 yX3_sameBytes yX3_sameBytes, Cond.code yX3_sameBytes cX3_sameBytes 3 (some .int), Cond.methodLink RX3 105 yX6_at, Cond.instanceMethod yX6_at, Cond.selects RX6 yX6_at yX6_at]
def wsX3_findInstructions_r2 : List Cond := [Cond.code yX6_at cX6_at 2 (some .int), Cond.fieldLink RX6 9 "DeltaWindows$Row" "bytes" "[I", Cond.methodLink RX3 116 yX3_findCopy, Cond.instanceMethod yX3_findCopy, Cond.selects RX3 yX3_findCopy yX3_findCopy, Cond.code yX3_findCopy cX3_findCopy 4 none, Cond.methodLink RX3 119 yX4_append, Cond.instanceMethod yX4_append, Cond.selects RX4 yX4_append yX4_append, Cond.initialized RX4, Cond.code yX4_append cX4_append 4 none, Cond.fieldLink RX4 21 "DeltaWindows$Instructions" "count" "I", Cond.fieldLink RX4 9 "DeltaWindows$Instructions" "kinds" "[I", Cond.fieldLink RX4 15 "DeltaWindows$Instructions" "sizes" "[I", Cond.fieldLink RX4 18 "DeltaWindows$Instructions" "modes" "[I", Cond.methodLink RX3 69 yX6_append, Cond.instanceMethod yX6_append, Cond.selects RX6 yX6_append yX6_append, Cond.code yX6_append cX6_append 2 none, Cond.methodLink RX3 122 yX3_writeAddress, Cond.instanceMethod yX3_writeAddress, Cond.selects RX3 yX3_writeAddress yX3_writeAddress, Cond.code yX3_writeAddress cX3_writeAddress 5 (some .int), Cond.fieldLink RX3 24 "DeltaWindows$Encoder" "caches" "LDeltaWindows$Caches;"]
def wsX3_findInstructions_r3 : List Cond := [Cond.fieldLink RX3 49 "DeltaWindows$Encoder" "addresses" "LDeltaWindows$Row;", Cond.methodLink RX3 128 yJ9_floorMod_7cf53, Cond.static yJ9_floorMod_7cf53, Cond.initialized RJ9, Cond.code yJ9_floorMod_7cf53 cJ9_floorMod_7cf53 3 (some .int), Cond.methodLink RX3 131 yX0_same, Cond.instanceMethod yX0_same, Cond.selects RX0 yX0_same yX0_same, Cond.initialized RX0, Cond.code yX0_same cX0_same 2 (some .int), Cond.fieldLink RX0 15 "DeltaWindows$Caches" "same" "[I", Cond.methodLink RX3 134 yX0_leastMode, Cond.instanceMethod yX0_leastMode, Cond.selects RX0 yX0_leastMode yX0_leastMode, Cond.code yX0_leastMode cX0_leastMode 6 (some .int), Cond.methodLink RX0 34 yX0_integerFor, Cond.instanceMethod yX0_integerFor, Cond.selects RX0 yX0_integerFor yX0_integerFor, Cond.code yX0_integerFor cX0_integerFor 4 (some .int), Cond.fieldLink RX0 9 "DeltaWindows$Caches" "near" "[I", Cond.methodLink RX3 137 yX0_integerFor, Cond.methodLink RX3 141 yX6_appendInteger, Cond.instanceMethod yX6_appendInteger, Cond.selects RX6 yX6_appendInteger yX6_appendInteger]
def wsX3_findInstructions_r4 : List Cond := [Cond.code yX6_appendInteger cX6_appendInteger 4 none, Cond.methodLink RX6 19 yX6_append, Cond.methodLink RX3 144 yX0_learn, Cond.instanceMethod yX0_learn, Cond.selects RX0 yX0_learn yX0_learn, Cond.code yX0_learn cX0_learn 2 none, Cond.fieldLink RX0 18 "DeltaWindows$Caches" "copies" "I", Cond.methodLink RX0 28 yJ9_floorMod_7cf53, Cond.methodLink RX3 125 yX4_appendAddedByte, Cond.instanceMethod yX4_appendAddedByte, Cond.selects RX4 yX4_appendAddedByte yX4_appendAddedByte, Cond.code yX4_appendAddedByte cX4_appendAddedByte 2 none, Cond.methodLink RX4 25 yX4_append]
def wsX3_findInstructions : List Cond := .code yX3_findInstructions cX3_findInstructions 3 none :: ((wsX3_findInstructions_r1 ++ (wsX3_findInstructions_r2 ++ (wsX3_findInstructions_r3 ++ wsX3_findInstructions_r4))) ++ wsX30 ++ wsX60 ++ wsX40 ++ wsX00)
def wsX4_count : List Cond := .code yX4_count cX4_count 1 (some .int) :: ([.fieldLink RX4 21 "DeltaWindows$Instructions" "count" "I"] ++ wsX40)
def wsX4_pairCode : List Cond := .code yX4_pairCode cX4_pairCode 3 (some .int) :: ([.fieldLink RX4 21 "DeltaWindows$Instructions" "count" "I", .fieldLink RX4 9 "DeltaWindows$Instructions" "kinds" "[I", .fieldLink RX4 15 "DeltaWindows$Instructions" "sizes" "[I", .fieldLink RX4 18 "DeltaWindows$Instructions" "modes" "[I", .methodLink RX4 35 yX1_addThenCopy, .static yX1_addThenCopy, .initialized RX1, .code yX1_addThenCopy cX1_addThenCopy 4 (some .int), .methodLink RX4 38 yX1_copyThenAdd, .static yX1_copyThenAdd, .code yX1_copyThenAdd cX1_copyThenAdd 3 (some .int)] ++ wsX40)
def wsX4_singleCode : List Cond := .code yX4_singleCode cX4_singleCode 2 (some .int) :: ([.fieldLink RX4 21 "DeltaWindows$Instructions" "count" "I", .fieldLink RX4 9 "DeltaWindows$Instructions" "kinds" "[I", .fieldLink RX4 15 "DeltaWindows$Instructions" "sizes" "[I", .fieldLink RX4 18 "DeltaWindows$Instructions" "modes" "[I", .methodLink RX4 29 yX1_single, .static yX1_single, .initialized RX1, .code yX1_single cX1_single 5 (some .int)] ++ wsX40)
def wsX4_sizeOf : List Cond := .code yX4_sizeOf cX4_sizeOf 2 (some .int) :: ([.fieldLink RX4 21 "DeltaWindows$Instructions" "count" "I", .fieldLink RX4 15 "DeltaWindows$Instructions" "sizes" "[I"] ++ wsX40)
def wsX3_chooseCodes_r1 : List Cond := [Cond.fieldLink RX3 31 "DeltaWindows$Encoder" "found" "LDeltaWindows$Instructions;", Cond.fieldLink RX3 46 "DeltaWindows$Encoder" "codes" "LDeltaWindows$Row;", Cond.methodLink RX3 147 yX4_count, Cond.instanceMethod yX4_count, Cond.selects RX4 yX4_count yX4_count, Cond.initialized RX4, Cond.code yX4_count cX4_count 1 (some .int), Cond.fieldLink RX4 21 "DeltaWindows$Instructions" "count" "I", Cond.methodLink RX3 148 yX4_pairCode, Cond.instanceMethod yX4_pairCode, Cond.selects RX4 yX4_pairCode yX4_pairCode, Cond.code yX4_pairCode cX4_pairCode 3 (some .int), Cond.fieldLink RX4 9 "DeltaWindows$Instructions" "kinds" "[I", Cond.fieldLink RX4 15 "DeltaWindows$Instructions" "sizes" "[I", Cond.fieldLink RX4 18 "DeltaWindows$Instructions" "modes" "[I", Cond.methodLink RX4 35 yX1_addThenCopy, Cond.static yX1_addThenCopy, Cond.initialized RX1, Cond.code yX1_addThenCopy cX1_addThenCopy 4 (some .int), Cond.methodLink RX4 38 yX1_copyThenAdd, Cond.static yX1_copyThenAdd, Cond.code yX1_copyThenAdd cX1_copyThenAdd 3 (some .int), Cond.methodLink RX3 69 yX6_append, Cond.instanceMethod yX6_append]
def wsX3_chooseCodes_r2 : List Cond := [Cond.selects RX6 yX6_append yX6_append, Cond.initialized RX6, Cond.code yX6_append cX6_append 2 none, Cond.fieldLink RX6 15 "DeltaWindows$Row" "count" "I", Cond.fieldLink RX6 9 "DeltaWindows$Row" "bytes" "[I", Cond.methodLink RX3 151 yX4_singleCode, Cond.instanceMethod yX4_singleCode, Cond.selects RX4 yX4_singleCode yX4_singleCode, Cond.code yX4_singleCode cX4_singleCode 2 (some .int), Cond.methodLink RX4 29 yX1_single, Cond.static yX1_single, Cond.code yX1_single cX1_single 5 (some .int), Cond.methodLink RX3 154 yX1_partOf, Cond.static yX1_partOf, Cond.code yX1_partOf cX1_partOf 5 (some .int), Cond.methodLink RX1 11 yX1_partOfSingle, Cond.static yX1_partOfSingle, Cond.code yX1_partOfSingle cX1_partOfSingle 5 (some .int), Cond.methodLink RX1 15 yX1_partOfAddCopy, Cond.static yX1_partOfAddCopy, Cond.code yX1_partOfAddCopy cX1_partOfAddCopy 4 (some .int), Cond.methodLink RX1 19 yX1_partOfCopyAdd, Cond.static yX1_partOfCopyAdd, Cond.code yX1_partOfCopyAdd cX1_partOfCopyAdd 2 (some .int)]
def wsX3_chooseCodes_r3 : List Cond := [Cond.methodLink RX3 159 yX4_sizeOf, Cond.instanceMethod yX4_sizeOf, Cond.selects RX4 yX4_sizeOf yX4_sizeOf, Cond.code yX4_sizeOf cX4_sizeOf 2 (some .int), Cond.methodLink RX3 141 yX6_appendInteger, Cond.instanceMethod yX6_appendInteger, Cond.selects RX6 yX6_appendInteger yX6_appendInteger, Cond.code yX6_appendInteger cX6_appendInteger 4 none, Cond.methodLink RX6 19 yX6_append]
def wsX3_chooseCodes : List Cond := .code yX3_chooseCodes cX3_chooseCodes 4 none :: ((wsX3_chooseCodes_r1 ++ (wsX3_chooseCodes_r2 ++ wsX3_chooseCodes_r3)) ++ wsX30 ++ wsX40 ++ wsX60)
def wsX3_writeWindow_r1 : List Cond := [Cond.fieldLink RX3 9 "DeltaWindows$Encoder" "source" "LDeltaWindows$Row;", Cond.fieldLink RX3 18 "DeltaWindows$Encoder" "delta" "LDeltaWindows$Row;", Cond.fieldLink RX3 52 "DeltaWindows$Encoder" "body" "LDeltaWindows$Row;", Cond.fieldLink RX3 40 "DeltaWindows$Encoder" "string" "LDeltaWindows$Row;", Cond.fieldLink RX3 43 "DeltaWindows$Encoder" "data" "LDeltaWindows$Row;", Cond.fieldLink RX3 46 "DeltaWindows$Encoder" "codes" "LDeltaWindows$Row;", Cond.fieldLink RX3 49 "DeltaWindows$Encoder" "addresses" "LDeltaWindows$Row;", Cond.methodLink RX3 75 yX6_count, Cond.instanceMethod yX6_count, Cond.selects RX6 yX6_count yX6_count, Cond.initialized RX6, Cond.code yX6_count cX6_count 1 (some .int), Cond.fieldLink RX6 15 "DeltaWindows$Row" "count" "I", Cond.methodLink RX3 69 yX6_append, Cond.instanceMethod yX6_append, Cond.selects RX6 yX6_append yX6_append, Cond.code yX6_append cX6_append 2 none, Cond.fieldLink RX6 9 "DeltaWindows$Row" "bytes" "[I", Cond.methodLink RX3 141 yX6_appendInteger, Cond.instanceMethod yX6_appendInteger, Cond.selects RX6 yX6_appendInteger yX6_appendInteger, Cond.code yX6_appendInteger cX6_appendInteger 4 none, Cond.methodLink RX6 19 yX6_append, Cond.methodLink RX3 162 yX6_appendRow]
def wsX3_writeWindow_r2 : List Cond := [Cond.instanceMethod yX6_appendRow, Cond.selects RX6 yX6_appendRow yX6_appendRow, Cond.code yX6_appendRow cX6_appendRow 3 none]
def wsX3_writeWindow : List Cond := .code yX3_writeWindow cX3_writeWindow 1 none :: ((wsX3_writeWindow_r1 ++ wsX3_writeWindow_r2) ++ wsX30 ++ wsX60)
def wsX3_writeDelta_r1 : List Cond := [Cond.fieldLink RX3 18 "DeltaWindows$Encoder" "delta" "LDeltaWindows$Row;", Cond.fieldLink RX3 24 "DeltaWindows$Encoder" "caches" "LDeltaWindows$Caches;", Cond.fieldLink RX3 15 "DeltaWindows$Encoder" "target" "LDeltaWindows$Row;", Cond.methodLink RX3 79 Lib.Math.min.name, Cond.static Lib.Math.min.name, Cond.initialized "java/lang/Math", Cond.code Lib.Math.min.name Lib.Math.min.code 2 (some .int), Cond.methodLink RX3 98 Lib.Math.max.name, Cond.static Lib.Math.max.name, Cond.code Lib.Math.max.name Lib.Math.max.code 2 (some .int), Cond.methodLink RX3 62 yX6_keep, Cond.instanceMethod yX6_keep, Cond.selects RX6 yX6_keep yX6_keep, Cond.initialized RX6, Cond.code yX6_keep cX6_keep 2 none, Cond.fieldLink RX6 15 "DeltaWindows$Row" "count" "I", Cond.methodLink RX3 69 yX6_append, Cond.instanceMethod yX6_append, Cond.selects RX6 yX6_append yX6_append, Cond.code yX6_append cX6_append 2 none, Cond.fieldLink RX6 9 "DeltaWindows$Row" "bytes" "[I", Cond.methodLink RX3 72 yX0_clear, Cond.instanceMethod yX0_clear, Cond.selects RX0 yX0_clear yX0_clear]
def wsX3_writeDelta_r2 : List Cond := [Cond.initialized RX0, Cond.code yX0_clear cX0_clear 1 none, Cond.fieldLink RX0 9 "DeltaWindows$Caches" "near" "[I", Cond.fieldLink RX0 15 "DeltaWindows$Caches" "same" "[I", Cond.fieldLink RX0 18 "DeltaWindows$Caches" "copies" "I", Cond.methodLink RX0 22 yJ7_fill_53178, Cond.static yJ7_fill_53178, Cond.initialized RJ7, Cond.code yJ7_fill_53178 cJ7_fill_53178 4 none, Cond.methodLink RX3 75 yX6_count, Cond.instanceMethod yX6_count, Cond.selects RX6 yX6_count yX6_count, Cond.code yX6_count cX6_count 1 (some .int), Cond.methodLink RX3 85 yX3_takePiece, Cond.instanceMethod yX3_takePiece, Cond.selects RX3 yX3_takePiece yX3_takePiece, Cond.initialized RX3, Cond.code yX3_takePiece cX3_takePiece 4 none, Cond.fieldLink RX3 40 "DeltaWindows$Encoder" "string" "LDeltaWindows$Row;", Cond.fieldLink RX3 9 "DeltaWindows$Encoder" "source" "LDeltaWindows$Row;", Cond.fieldLink RX3 31 "DeltaWindows$Encoder" "found" "LDeltaWindows$Instructions;", Cond.fieldLink RX3 43 "DeltaWindows$Encoder" "data" "LDeltaWindows$Row;", Cond.fieldLink RX3 46 "DeltaWindows$Encoder" "codes" "LDeltaWindows$Row;", Cond.fieldLink RX3 49 "DeltaWindows$Encoder" "addresses" "LDeltaWindows$Row;"]
def wsX3_writeDelta_r3 : List Cond := [Cond.fieldLink RX3 52 "DeltaWindows$Encoder" "body" "LDeltaWindows$Row;", Cond.methodLink RX3 101 yX6_become, Cond.instanceMethod yX6_become, Cond.selects RX6 yX6_become yX6_become, Cond.code yX6_become cX6_become 2 none, Cond.methodLink RX6 23 yX6_appendRow, Cond.instanceMethod yX6_appendRow, Cond.selects RX6 yX6_appendRow yX6_appendRow, Cond.code yX6_appendRow cX6_appendRow 3 none, Cond.methodLink RX6 19 yX6_append, Cond.methodLink RX3 105 yX6_at, Cond.instanceMethod yX6_at, Cond.selects RX6 yX6_at yX6_at, Cond.code yX6_at cX6_at 2 (some .int), Cond.methodLink RX3 109 yX4_clear, Cond.instanceMethod yX4_clear, Cond.selects RX4 yX4_clear yX4_clear, Cond.initialized RX4, Cond.code yX4_clear cX4_clear 1 none, Cond.fieldLink RX4 21 "DeltaWindows$Instructions" "count" "I", Cond.methodLink RX3 89 yX3_findInstructions, Cond.instanceMethod yX3_findInstructions, Cond.selects RX3 yX3_findInstructions yX3_findInstructions, Cond.code yX3_findInstructions cX3_findInstructions 3 none]
def wsX3_writeDelta_r4 : List Cond := [Cond.methodLink RX3 110 yX3_findInstruction, Cond.instanceMethod yX3_findInstruction, Cond.selects RX3 yX3_findInstruction yX3_findInstruction, Cond.code yX3_findInstruction cX3_findInstruction 3 (some .int), Cond.fieldLink RX3 55 "DeltaWindows$Encoder" "copySize" "I", Cond.fieldLink RX3 59 "DeltaWindows$Encoder" "copyAddress" "I", Cond.methodLink RX3 113 yX3_sameBytes, Cond.instanceMethod yX3_sameBytes, Cond.selects RX3 yX3_sameBytes yX3_sameBytes, Cond.code yX3_sameBytes cX3_sameBytes 3 (some .int), Cond.methodLink RX3 116 yX3_findCopy, Cond.instanceMethod yX3_findCopy, Cond.selects RX3 yX3_findCopy yX3_findCopy, Cond.code yX3_findCopy cX3_findCopy 4 none, Cond.methodLink RX3 119 yX4_append, Cond.instanceMethod yX4_append, Cond.selects RX4 yX4_append yX4_append, Cond.code yX4_append cX4_append 4 none, Cond.fieldLink RX4 9 "DeltaWindows$Instructions" "kinds" "[I", Cond.fieldLink RX4 15 "DeltaWindows$Instructions" "sizes" "[I", Cond.fieldLink RX4 18 "DeltaWindows$Instructions" "modes" "[I", Cond.methodLink RX3 122 yX3_writeAddress, Cond.instanceMethod yX3_writeAddress, Cond.selects RX3 yX3_writeAddress yX3_writeAddress]
def wsX3_writeDelta_r5 : List Cond := [Cond.code yX3_writeAddress cX3_writeAddress 5 (some .int), Cond.methodLink RX3 128 yJ9_floorMod_7cf53, Cond.static yJ9_floorMod_7cf53, Cond.initialized RJ9, Cond.code yJ9_floorMod_7cf53 cJ9_floorMod_7cf53 3 (some .int), Cond.methodLink RX3 131 yX0_same, Cond.instanceMethod yX0_same, Cond.selects RX0 yX0_same yX0_same, Cond.code yX0_same cX0_same 2 (some .int), Cond.methodLink RX3 134 yX0_leastMode, Cond.instanceMethod yX0_leastMode, Cond.selects RX0 yX0_leastMode yX0_leastMode, Cond.code yX0_leastMode cX0_leastMode 6 (some .int), Cond.methodLink RX0 34 yX0_integerFor, Cond.instanceMethod yX0_integerFor, Cond.selects RX0 yX0_integerFor yX0_integerFor, Cond.code yX0_integerFor cX0_integerFor 4 (some .int), Cond.methodLink RX3 137 yX0_integerFor, Cond.methodLink RX3 141 yX6_appendInteger, Cond.instanceMethod yX6_appendInteger, Cond.selects RX6 yX6_appendInteger yX6_appendInteger, Cond.code yX6_appendInteger cX6_appendInteger 4 none, Cond.methodLink RX3 144 yX0_learn, Cond.instanceMethod yX0_learn]
def wsX3_writeDelta_r6 : List Cond := [Cond.selects RX0 yX0_learn yX0_learn, Cond.code yX0_learn cX0_learn 2 none, Cond.methodLink RX0 28 yJ9_floorMod_7cf53, Cond.methodLink RX3 125 yX4_appendAddedByte, Cond.instanceMethod yX4_appendAddedByte, Cond.selects RX4 yX4_appendAddedByte yX4_appendAddedByte, Cond.code yX4_appendAddedByte cX4_appendAddedByte 2 none, Cond.methodLink RX4 25 yX4_append, Cond.methodLink RX3 92 yX3_chooseCodes, Cond.instanceMethod yX3_chooseCodes, Cond.selects RX3 yX3_chooseCodes yX3_chooseCodes, Cond.code yX3_chooseCodes cX3_chooseCodes 4 none, Cond.methodLink RX3 147 yX4_count, Cond.instanceMethod yX4_count, Cond.selects RX4 yX4_count yX4_count, Cond.code yX4_count cX4_count 1 (some .int), Cond.methodLink RX3 148 yX4_pairCode, Cond.instanceMethod yX4_pairCode, Cond.selects RX4 yX4_pairCode yX4_pairCode, Cond.code yX4_pairCode cX4_pairCode 3 (some .int), Cond.methodLink RX4 35 yX1_addThenCopy, Cond.static yX1_addThenCopy, Cond.initialized RX1, Cond.code yX1_addThenCopy cX1_addThenCopy 4 (some .int)]
def wsX3_writeDelta_r7 : List Cond := [Cond.methodLink RX4 38 yX1_copyThenAdd, Cond.static yX1_copyThenAdd, Cond.code yX1_copyThenAdd cX1_copyThenAdd 3 (some .int), Cond.methodLink RX3 151 yX4_singleCode, Cond.instanceMethod yX4_singleCode, Cond.selects RX4 yX4_singleCode yX4_singleCode, Cond.code yX4_singleCode cX4_singleCode 2 (some .int), Cond.methodLink RX4 29 yX1_single, Cond.static yX1_single, Cond.code yX1_single cX1_single 5 (some .int), Cond.methodLink RX3 154 yX1_partOf, Cond.static yX1_partOf, Cond.code yX1_partOf cX1_partOf 5 (some .int), Cond.methodLink RX1 11 yX1_partOfSingle, Cond.static yX1_partOfSingle, Cond.code yX1_partOfSingle cX1_partOfSingle 5 (some .int), Cond.methodLink RX1 15 yX1_partOfAddCopy, Cond.static yX1_partOfAddCopy, Cond.code yX1_partOfAddCopy cX1_partOfAddCopy 4 (some .int), Cond.methodLink RX1 19 yX1_partOfCopyAdd, Cond.static yX1_partOfCopyAdd, Cond.code yX1_partOfCopyAdd cX1_partOfCopyAdd 2 (some .int), Cond.methodLink RX3 159 yX4_sizeOf, Cond.instanceMethod yX4_sizeOf]
def wsX3_writeDelta_r8 : List Cond := [Cond.selects RX4 yX4_sizeOf yX4_sizeOf, Cond.code yX4_sizeOf cX4_sizeOf 2 (some .int), Cond.methodLink RX3 95 yX3_writeWindow, Cond.instanceMethod yX3_writeWindow, Cond.selects RX3 yX3_writeWindow yX3_writeWindow, Cond.code yX3_writeWindow cX3_writeWindow 1 none, Cond.methodLink RX3 162 yX6_appendRow]
def wsX3_writeDelta : List Cond := .code yX3_writeDelta cX3_writeDelta 6 none :: ((wsX3_writeDelta_r1 ++ (wsX3_writeDelta_r2 ++ (wsX3_writeDelta_r3 ++ (wsX3_writeDelta_r4 ++ (wsX3_writeDelta_r5 ++ (wsX3_writeDelta_r6 ++ (wsX3_writeDelta_r7 ++ wsX3_writeDelta_r8))))))) ++ wsX30 ++ wsX60 ++ wsX00 ++ wsX40)
def wsX6_room : List Cond := .code yX6_room cX6_room 1 (some .int) :: ([.fieldLink RX6 9 "DeltaWindows$Row" "bytes" "[I", .fieldLink RX6 15 "DeltaWindows$Row" "count" "I"] ++ wsX60)
def wsX6_replace : List Cond := .code yX6_replace cX6_replace 3 none :: ([.fieldLink RX6 15 "DeltaWindows$Row" "count" "I", .fieldLink RX6 9 "DeltaWindows$Row" "bytes" "[I"] ++ wsX60)
def wsX7_init_r1 : List Cond := [Cond.methodLink RX7 1 objectInit, Cond.instanceMethod objectInit, Cond.code objectInit ⟨#[0xb1]⟩ 1 none, Cond.classLink RX7 7 RX6, Cond.instantiable RX6 2, Cond.initialized RX6, Cond.fieldLink RX7 14 "DeltaWindows" "source" "LDeltaWindows$Row;", Cond.fieldLink RX7 18 "DeltaWindows" "target" "LDeltaWindows$Row;", Cond.fieldLink RX7 21 "DeltaWindows" "delta" "LDeltaWindows$Row;", Cond.fieldLink RX7 24 "DeltaWindows" "output" "LDeltaWindows$Row;", Cond.classLink RX7 27 RX3, Cond.instantiable RX3 12, Cond.initialized RX3, Cond.fieldLink RX7 32 "DeltaWindows" "encoder" "LDeltaWindows$Encoder;", Cond.classLink RX7 36 RX2, Cond.instantiable RX2 13, Cond.initialized RX2, Cond.fieldLink RX7 41 "DeltaWindows" "decoder" "LDeltaWindows$Decoder;", Cond.classLink RX7 45 RX0, Cond.instantiable RX0 3, Cond.initialized RX0, Cond.fieldLink RX7 48 "DeltaWindows" "decoded" "LDeltaWindows$Caches;", Cond.fieldLink RX7 52 "DeltaWindows" "decodedWindows" "I", Cond.methodLink RX7 11 yX6_init]
def wsX7_init_r2 : List Cond := [Cond.instanceMethod yX6_init, Cond.code yX6_init cX6_init 2 none, Cond.methodLink RX6 3 objectInit, Cond.arrayClass .int, Cond.fieldLink RX6 9 "DeltaWindows$Row" "bytes" "[I", Cond.fieldLink RX6 15 "DeltaWindows$Row" "count" "I", Cond.methodLink RX7 29 yX3_init, Cond.instanceMethod yX3_init, Cond.code yX3_init cX3_init 4 none, Cond.methodLink RX3 3 objectInit, Cond.fieldLink RX3 9 "DeltaWindows$Encoder" "source" "LDeltaWindows$Row;", Cond.fieldLink RX3 15 "DeltaWindows$Encoder" "target" "LDeltaWindows$Row;", Cond.fieldLink RX3 18 "DeltaWindows$Encoder" "delta" "LDeltaWindows$Row;", Cond.classLink RX3 21 RX0, Cond.fieldLink RX3 24 "DeltaWindows$Encoder" "caches" "LDeltaWindows$Caches;", Cond.classLink RX3 28 RX4, Cond.instantiable RX4 4, Cond.initialized RX4, Cond.fieldLink RX3 31 "DeltaWindows$Encoder" "found" "LDeltaWindows$Instructions;", Cond.classLink RX3 35 RX6, Cond.fieldLink RX3 40 "DeltaWindows$Encoder" "string" "LDeltaWindows$Row;", Cond.fieldLink RX3 43 "DeltaWindows$Encoder" "data" "LDeltaWindows$Row;", Cond.fieldLink RX3 46 "DeltaWindows$Encoder" "codes" "LDeltaWindows$Row;", Cond.fieldLink RX3 49 "DeltaWindows$Encoder" "addresses" "LDeltaWindows$Row;"]
def wsX7_init_r3 : List Cond := [Cond.fieldLink RX3 52 "DeltaWindows$Encoder" "body" "LDeltaWindows$Row;", Cond.fieldLink RX3 55 "DeltaWindows$Encoder" "copySize" "I", Cond.fieldLink RX3 59 "DeltaWindows$Encoder" "copyAddress" "I", Cond.methodLink RX3 23 yX0_init, Cond.instanceMethod yX0_init, Cond.code yX0_init cX0_init 1 none, Cond.methodLink RX0 3 objectInit, Cond.fieldLink RX0 9 "DeltaWindows$Caches" "near" "[I", Cond.fieldLink RX0 15 "DeltaWindows$Caches" "same" "[I", Cond.fieldLink RX0 18 "DeltaWindows$Caches" "copies" "I", Cond.methodLink RX3 30 yX4_init, Cond.instanceMethod yX4_init, Cond.code yX4_init cX4_init 1 none, Cond.methodLink RX4 3 objectInit, Cond.fieldLink RX4 9 "DeltaWindows$Instructions" "kinds" "[I", Cond.fieldLink RX4 15 "DeltaWindows$Instructions" "sizes" "[I", Cond.fieldLink RX4 18 "DeltaWindows$Instructions" "modes" "[I", Cond.fieldLink RX4 21 "DeltaWindows$Instructions" "count" "I", Cond.methodLink RX3 37 yX6_init, Cond.methodLink RX7 38 yX2_init, Cond.instanceMethod yX2_init, Cond.code yX2_init cX2_init 3 none, Cond.methodLink RX2 3 objectInit, Cond.fieldLink RX2 9 "DeltaWindows$Decoder" "source" "LDeltaWindows$Row;"]
def wsX7_init_r4 : List Cond := [Cond.classLink RX2 15 RX6, Cond.fieldLink RX2 20 "DeltaWindows$Decoder" "made" "LDeltaWindows$Row;", Cond.classLink RX2 23 RX0, Cond.fieldLink RX2 26 "DeltaWindows$Decoder" "caches" "LDeltaWindows$Caches;", Cond.classLink RX2 30 RX5, Cond.instantiable RX5 3, Cond.initialized RX5, Cond.fieldLink RX2 35 "DeltaWindows$Decoder" "whole" "LDeltaWindows$Reader;", Cond.fieldLink RX2 39 "DeltaWindows$Decoder" "data" "LDeltaWindows$Reader;", Cond.fieldLink RX2 42 "DeltaWindows$Decoder" "codes" "LDeltaWindows$Reader;", Cond.fieldLink RX2 45 "DeltaWindows$Decoder" "addresses" "LDeltaWindows$Reader;", Cond.fieldLink RX2 48 "DeltaWindows$Decoder" "windowsRead" "I", Cond.fieldLink RX2 52 "DeltaWindows$Decoder" "segment" "LDeltaWindows$Row;", Cond.fieldLink RX2 55 "DeltaWindows$Decoder" "segmentPlace" "I", Cond.fieldLink RX2 58 "DeltaWindows$Decoder" "segmentSize" "I", Cond.fieldLink RX2 61 "DeltaWindows$Decoder" "windowStart" "I", Cond.fieldLink RX2 64 "DeltaWindows$Decoder" "windowEnd" "I", Cond.methodLink RX2 17 yX6_init, Cond.methodLink RX2 25 yX0_init, Cond.methodLink RX2 32 yX5_init, Cond.instanceMethod yX5_init, Cond.code yX5_init cX5_init 2 none, Cond.methodLink RX5 3 objectInit, Cond.fieldLink RX5 9 "DeltaWindows$Reader" "row" "LDeltaWindows$Row;"]
def wsX7_init_r5 : List Cond := [Cond.fieldLink RX5 15 "DeltaWindows$Reader" "place" "I", Cond.fieldLink RX5 19 "DeltaWindows$Reader" "end" "I", Cond.methodLink RX7 47 yX0_init]
def wsX7_init : List Cond := .code yX7_init cX7_init 1 none :: ((wsX7_init_r1 ++ (wsX7_init_r2 ++ (wsX7_init_r3 ++ (wsX7_init_r4 ++ wsX7_init_r5)))) ++ wsX60 ++ wsX70 ++ wsX30 ++ wsX20 ++ wsX00 ++ wsX40 ++ wsX50)
def wsX7_anyRow : List Cond := .code yX7_anyRow cX7_anyRow 2 (some (.object "DeltaWindows$Row")) :: ([.fieldLink RX7 14 "DeltaWindows" "source" "LDeltaWindows$Row;", .fieldLink RX7 18 "DeltaWindows" "target" "LDeltaWindows$Row;", .fieldLink RX7 21 "DeltaWindows" "delta" "LDeltaWindows$Row;", .fieldLink RX7 24 "DeltaWindows" "output" "LDeltaWindows$Row;"] ++ wsX70)
def wsX7_inputRow : List Cond := .code yX7_inputRow cX7_inputRow 2 (some (.object "DeltaWindows$Row")) :: ([.methodLink RX7 104 yX7_anyRow, .instanceMethod yX7_anyRow, .selects RX7 yX7_anyRow yX7_anyRow, .initialized RX7, .code yX7_anyRow cX7_anyRow 2 (some (.object "DeltaWindows$Row")), .fieldLink RX7 14 "DeltaWindows" "source" "LDeltaWindows$Row;", .fieldLink RX7 18 "DeltaWindows" "target" "LDeltaWindows$Row;", .fieldLink RX7 21 "DeltaWindows" "delta" "LDeltaWindows$Row;", .fieldLink RX7 24 "DeltaWindows" "output" "LDeltaWindows$Row;"] ++ wsX70)
def wsX7_isByte : List Cond := .code yX7_isByte cX7_isByte 1 (some .boolean) :: ([])
def wsX7_put_r1 : List Cond := [Cond.methodLink RX7 56 yX7_inputRow, Cond.instanceMethod yX7_inputRow, Cond.selects RX7 yX7_inputRow yX7_inputRow, Cond.initialized RX7, Cond.code yX7_inputRow cX7_inputRow 2 (some (.object "DeltaWindows$Row")), Cond.methodLink RX7 104 yX7_anyRow, Cond.instanceMethod yX7_anyRow, Cond.selects RX7 yX7_anyRow yX7_anyRow, Cond.code yX7_anyRow cX7_anyRow 2 (some (.object "DeltaWindows$Row")), Cond.fieldLink RX7 14 "DeltaWindows" "source" "LDeltaWindows$Row;", Cond.fieldLink RX7 18 "DeltaWindows" "target" "LDeltaWindows$Row;", Cond.fieldLink RX7 21 "DeltaWindows" "delta" "LDeltaWindows$Row;", Cond.fieldLink RX7 24 "DeltaWindows" "output" "LDeltaWindows$Row;", Cond.methodLink RX7 60 yX7_isByte, Cond.static yX7_isByte, Cond.code yX7_isByte cX7_isByte 1 (some .boolean), Cond.methodLink RX7 64 yX6_room, Cond.instanceMethod yX6_room, Cond.selects RX6 yX6_room yX6_room, Cond.initialized RX6, Cond.code yX6_room cX6_room 1 (some .int), Cond.fieldLink RX6 9 "DeltaWindows$Row" "bytes" "[I", Cond.fieldLink RX6 15 "DeltaWindows$Row" "count" "I", Cond.methodLink RX7 68 yX6_append]
def wsX7_put_r2 : List Cond := [Cond.instanceMethod yX6_append, Cond.selects RX6 yX6_append yX6_append, Cond.code yX6_append cX6_append 2 none]
def wsX7_put : List Cond := .code yX7_put cX7_put 6 (some .boolean) :: ((wsX7_put_r1 ++ wsX7_put_r2) ++ wsX70 ++ wsX60)
def wsX7_cut : List Cond := .code yX7_cut cX7_cut 4 (some .boolean) :: ([.methodLink RX7 56 yX7_inputRow, .instanceMethod yX7_inputRow, .selects RX7 yX7_inputRow yX7_inputRow, .initialized RX7, .code yX7_inputRow cX7_inputRow 2 (some (.object "DeltaWindows$Row")), .methodLink RX7 104 yX7_anyRow, .instanceMethod yX7_anyRow, .selects RX7 yX7_anyRow yX7_anyRow, .code yX7_anyRow cX7_anyRow 2 (some (.object "DeltaWindows$Row")), .fieldLink RX7 14 "DeltaWindows" "source" "LDeltaWindows$Row;", .fieldLink RX7 18 "DeltaWindows" "target" "LDeltaWindows$Row;", .fieldLink RX7 21 "DeltaWindows" "delta" "LDeltaWindows$Row;", .fieldLink RX7 24 "DeltaWindows" "output" "LDeltaWindows$Row;", .methodLink RX7 71 yX6_count, .instanceMethod yX6_count, .selects RX6 yX6_count yX6_count, .initialized RX6, .code yX6_count cX6_count 1 (some .int), .fieldLink RX6 15 "DeltaWindows$Row" "count" "I", .methodLink RX7 74 yX6_keep, .instanceMethod yX6_keep, .selects RX6 yX6_keep yX6_keep, .code yX6_keep cX6_keep 2 none] ++ wsX70 ++ wsX60)
def wsX7_set_r1 : List Cond := [Cond.methodLink RX7 56 yX7_inputRow, Cond.instanceMethod yX7_inputRow, Cond.selects RX7 yX7_inputRow yX7_inputRow, Cond.initialized RX7, Cond.code yX7_inputRow cX7_inputRow 2 (some (.object "DeltaWindows$Row")), Cond.methodLink RX7 104 yX7_anyRow, Cond.instanceMethod yX7_anyRow, Cond.selects RX7 yX7_anyRow yX7_anyRow, Cond.code yX7_anyRow cX7_anyRow 2 (some (.object "DeltaWindows$Row")), Cond.fieldLink RX7 14 "DeltaWindows" "source" "LDeltaWindows$Row;", Cond.fieldLink RX7 18 "DeltaWindows" "target" "LDeltaWindows$Row;", Cond.fieldLink RX7 21 "DeltaWindows" "delta" "LDeltaWindows$Row;", Cond.fieldLink RX7 24 "DeltaWindows" "output" "LDeltaWindows$Row;", Cond.methodLink RX7 71 yX6_count, Cond.instanceMethod yX6_count, Cond.selects RX6 yX6_count yX6_count, Cond.initialized RX6, Cond.code yX6_count cX6_count 1 (some .int), Cond.fieldLink RX6 15 "DeltaWindows$Row" "count" "I", Cond.methodLink RX7 60 yX7_isByte, Cond.static yX7_isByte, Cond.code yX7_isByte cX7_isByte 1 (some .boolean), Cond.methodLink RX7 77 yX6_replace, Cond.instanceMethod yX6_replace]
def wsX7_set_r2 : List Cond := [Cond.selects RX6 yX6_replace yX6_replace, Cond.code yX6_replace cX6_replace 3 none, Cond.fieldLink RX6 9 "DeltaWindows$Row" "bytes" "[I"]
def wsX7_set : List Cond := .code yX7_set cX7_set 5 (some .boolean) :: ((wsX7_set_r1 ++ wsX7_set_r2) ++ wsX70 ++ wsX60)
def wsX7_encode_r1 : List Cond := [Cond.fieldLink RX7 32 "DeltaWindows" "encoder" "LDeltaWindows$Encoder;", Cond.fieldLink RX7 21 "DeltaWindows" "delta" "LDeltaWindows$Row;", Cond.methodLink RX7 81 yX3_writeDelta, Cond.instanceMethod yX3_writeDelta, Cond.selects RX3 yX3_writeDelta yX3_writeDelta, Cond.initialized RX3, Cond.code yX3_writeDelta cX3_writeDelta 6 none, Cond.fieldLink RX3 18 "DeltaWindows$Encoder" "delta" "LDeltaWindows$Row;", Cond.fieldLink RX3 24 "DeltaWindows$Encoder" "caches" "LDeltaWindows$Caches;", Cond.fieldLink RX3 15 "DeltaWindows$Encoder" "target" "LDeltaWindows$Row;", Cond.methodLink RX3 79 Lib.Math.min.name, Cond.static Lib.Math.min.name, Cond.initialized "java/lang/Math", Cond.code Lib.Math.min.name Lib.Math.min.code 2 (some .int), Cond.methodLink RX3 98 Lib.Math.max.name, Cond.static Lib.Math.max.name, Cond.code Lib.Math.max.name Lib.Math.max.code 2 (some .int), Cond.methodLink RX3 62 yX6_keep, Cond.instanceMethod yX6_keep, Cond.selects RX6 yX6_keep yX6_keep, Cond.initialized RX6, Cond.code yX6_keep cX6_keep 2 none, Cond.fieldLink RX6 15 "DeltaWindows$Row" "count" "I", Cond.methodLink RX3 69 yX6_append]
def wsX7_encode_r2 : List Cond := [Cond.instanceMethod yX6_append, Cond.selects RX6 yX6_append yX6_append, Cond.code yX6_append cX6_append 2 none, Cond.fieldLink RX6 9 "DeltaWindows$Row" "bytes" "[I", Cond.methodLink RX3 72 yX0_clear, Cond.instanceMethod yX0_clear, Cond.selects RX0 yX0_clear yX0_clear, Cond.initialized RX0, Cond.code yX0_clear cX0_clear 1 none, Cond.fieldLink RX0 9 "DeltaWindows$Caches" "near" "[I", Cond.fieldLink RX0 15 "DeltaWindows$Caches" "same" "[I", Cond.fieldLink RX0 18 "DeltaWindows$Caches" "copies" "I", Cond.methodLink RX0 22 yJ7_fill_53178, Cond.static yJ7_fill_53178, Cond.initialized RJ7, Cond.code yJ7_fill_53178 cJ7_fill_53178 4 none, Cond.methodLink RX3 75 yX6_count, Cond.instanceMethod yX6_count, Cond.selects RX6 yX6_count yX6_count, Cond.code yX6_count cX6_count 1 (some .int), Cond.methodLink RX3 85 yX3_takePiece, Cond.instanceMethod yX3_takePiece, Cond.selects RX3 yX3_takePiece yX3_takePiece, Cond.code yX3_takePiece cX3_takePiece 4 none]
def wsX7_encode_r3 : List Cond := [Cond.fieldLink RX3 40 "DeltaWindows$Encoder" "string" "LDeltaWindows$Row;", Cond.fieldLink RX3 9 "DeltaWindows$Encoder" "source" "LDeltaWindows$Row;", Cond.fieldLink RX3 31 "DeltaWindows$Encoder" "found" "LDeltaWindows$Instructions;", Cond.fieldLink RX3 43 "DeltaWindows$Encoder" "data" "LDeltaWindows$Row;", Cond.fieldLink RX3 46 "DeltaWindows$Encoder" "codes" "LDeltaWindows$Row;", Cond.fieldLink RX3 49 "DeltaWindows$Encoder" "addresses" "LDeltaWindows$Row;", Cond.fieldLink RX3 52 "DeltaWindows$Encoder" "body" "LDeltaWindows$Row;", Cond.methodLink RX3 101 yX6_become, Cond.instanceMethod yX6_become, Cond.selects RX6 yX6_become yX6_become, Cond.code yX6_become cX6_become 2 none, Cond.methodLink RX6 23 yX6_appendRow, Cond.instanceMethod yX6_appendRow, Cond.selects RX6 yX6_appendRow yX6_appendRow, Cond.code yX6_appendRow cX6_appendRow 3 none, Cond.methodLink RX6 19 yX6_append, Cond.methodLink RX3 105 yX6_at, Cond.instanceMethod yX6_at, Cond.selects RX6 yX6_at yX6_at, Cond.code yX6_at cX6_at 2 (some .int), Cond.methodLink RX3 109 yX4_clear, Cond.instanceMethod yX4_clear, Cond.selects RX4 yX4_clear yX4_clear, Cond.initialized RX4]
def wsX7_encode_r4 : List Cond := [Cond.code yX4_clear cX4_clear 1 none, Cond.fieldLink RX4 21 "DeltaWindows$Instructions" "count" "I", Cond.methodLink RX3 89 yX3_findInstructions, Cond.instanceMethod yX3_findInstructions, Cond.selects RX3 yX3_findInstructions yX3_findInstructions, Cond.code yX3_findInstructions cX3_findInstructions 3 none, Cond.methodLink RX3 110 yX3_findInstruction, Cond.instanceMethod yX3_findInstruction, Cond.selects RX3 yX3_findInstruction yX3_findInstruction, Cond.code yX3_findInstruction cX3_findInstruction 3 (some .int), Cond.fieldLink RX3 55 "DeltaWindows$Encoder" "copySize" "I", Cond.fieldLink RX3 59 "DeltaWindows$Encoder" "copyAddress" "I", Cond.methodLink RX3 113 yX3_sameBytes, Cond.instanceMethod yX3_sameBytes, Cond.selects RX3 yX3_sameBytes yX3_sameBytes, Cond.code yX3_sameBytes cX3_sameBytes 3 (some .int), Cond.methodLink RX3 116 yX3_findCopy, Cond.instanceMethod yX3_findCopy, Cond.selects RX3 yX3_findCopy yX3_findCopy, Cond.code yX3_findCopy cX3_findCopy 4 none, Cond.methodLink RX3 119 yX4_append, Cond.instanceMethod yX4_append, Cond.selects RX4 yX4_append yX4_append, Cond.code yX4_append cX4_append 4 none]
def wsX7_encode_r5 : List Cond := [Cond.fieldLink RX4 9 "DeltaWindows$Instructions" "kinds" "[I", Cond.fieldLink RX4 15 "DeltaWindows$Instructions" "sizes" "[I", Cond.fieldLink RX4 18 "DeltaWindows$Instructions" "modes" "[I", Cond.methodLink RX3 122 yX3_writeAddress, Cond.instanceMethod yX3_writeAddress, Cond.selects RX3 yX3_writeAddress yX3_writeAddress, Cond.code yX3_writeAddress cX3_writeAddress 5 (some .int), Cond.methodLink RX3 128 yJ9_floorMod_7cf53, Cond.static yJ9_floorMod_7cf53, Cond.initialized RJ9, Cond.code yJ9_floorMod_7cf53 cJ9_floorMod_7cf53 3 (some .int), Cond.methodLink RX3 131 yX0_same, Cond.instanceMethod yX0_same, Cond.selects RX0 yX0_same yX0_same, Cond.code yX0_same cX0_same 2 (some .int), Cond.methodLink RX3 134 yX0_leastMode, Cond.instanceMethod yX0_leastMode, Cond.selects RX0 yX0_leastMode yX0_leastMode, Cond.code yX0_leastMode cX0_leastMode 6 (some .int), Cond.methodLink RX0 34 yX0_integerFor, Cond.instanceMethod yX0_integerFor, Cond.selects RX0 yX0_integerFor yX0_integerFor, Cond.code yX0_integerFor cX0_integerFor 4 (some .int), Cond.methodLink RX3 137 yX0_integerFor]
def wsX7_encode_r6 : List Cond := [Cond.methodLink RX3 141 yX6_appendInteger, Cond.instanceMethod yX6_appendInteger, Cond.selects RX6 yX6_appendInteger yX6_appendInteger, Cond.code yX6_appendInteger cX6_appendInteger 4 none, Cond.methodLink RX3 144 yX0_learn, Cond.instanceMethod yX0_learn, Cond.selects RX0 yX0_learn yX0_learn, Cond.code yX0_learn cX0_learn 2 none, Cond.methodLink RX0 28 yJ9_floorMod_7cf53, Cond.methodLink RX3 125 yX4_appendAddedByte, Cond.instanceMethod yX4_appendAddedByte, Cond.selects RX4 yX4_appendAddedByte yX4_appendAddedByte, Cond.code yX4_appendAddedByte cX4_appendAddedByte 2 none, Cond.methodLink RX4 25 yX4_append, Cond.methodLink RX3 92 yX3_chooseCodes, Cond.instanceMethod yX3_chooseCodes, Cond.selects RX3 yX3_chooseCodes yX3_chooseCodes, Cond.code yX3_chooseCodes cX3_chooseCodes 4 none, Cond.methodLink RX3 147 yX4_count, Cond.instanceMethod yX4_count, Cond.selects RX4 yX4_count yX4_count, Cond.code yX4_count cX4_count 1 (some .int), Cond.methodLink RX3 148 yX4_pairCode, Cond.instanceMethod yX4_pairCode]
def wsX7_encode_r7 : List Cond := [Cond.selects RX4 yX4_pairCode yX4_pairCode, Cond.code yX4_pairCode cX4_pairCode 3 (some .int), Cond.methodLink RX4 35 yX1_addThenCopy, Cond.static yX1_addThenCopy, Cond.initialized RX1, Cond.code yX1_addThenCopy cX1_addThenCopy 4 (some .int), Cond.methodLink RX4 38 yX1_copyThenAdd, Cond.static yX1_copyThenAdd, Cond.code yX1_copyThenAdd cX1_copyThenAdd 3 (some .int), Cond.methodLink RX3 151 yX4_singleCode, Cond.instanceMethod yX4_singleCode, Cond.selects RX4 yX4_singleCode yX4_singleCode, Cond.code yX4_singleCode cX4_singleCode 2 (some .int), Cond.methodLink RX4 29 yX1_single, Cond.static yX1_single, Cond.code yX1_single cX1_single 5 (some .int), Cond.methodLink RX3 154 yX1_partOf, Cond.static yX1_partOf, Cond.code yX1_partOf cX1_partOf 5 (some .int), Cond.methodLink RX1 11 yX1_partOfSingle, Cond.static yX1_partOfSingle, Cond.code yX1_partOfSingle cX1_partOfSingle 5 (some .int), Cond.methodLink RX1 15 yX1_partOfAddCopy, Cond.static yX1_partOfAddCopy]
def wsX7_encode_r8 : List Cond := [Cond.code yX1_partOfAddCopy cX1_partOfAddCopy 4 (some .int), Cond.methodLink RX1 19 yX1_partOfCopyAdd, Cond.static yX1_partOfCopyAdd, Cond.code yX1_partOfCopyAdd cX1_partOfCopyAdd 2 (some .int), Cond.methodLink RX3 159 yX4_sizeOf, Cond.instanceMethod yX4_sizeOf, Cond.selects RX4 yX4_sizeOf yX4_sizeOf, Cond.code yX4_sizeOf cX4_sizeOf 2 (some .int), Cond.methodLink RX3 95 yX3_writeWindow, Cond.instanceMethod yX3_writeWindow, Cond.selects RX3 yX3_writeWindow yX3_writeWindow, Cond.code yX3_writeWindow cX3_writeWindow 1 none, Cond.methodLink RX3 162 yX6_appendRow, Cond.methodLink RX7 71 yX6_count]
def wsX7_encode : List Cond := .code yX7_encode cX7_encode 2 (some .int) :: ((wsX7_encode_r1 ++ (wsX7_encode_r2 ++ (wsX7_encode_r3 ++ (wsX7_encode_r4 ++ (wsX7_encode_r5 ++ (wsX7_encode_r6 ++ (wsX7_encode_r7 ++ wsX7_encode_r8))))))) ++ wsX70 ++ wsX30 ++ wsX60 ++ wsX00 ++ wsX40)
def wsX7_decode_r1 : List Cond := [Cond.fieldLink RX7 41 "DeltaWindows" "decoder" "LDeltaWindows$Decoder;", Cond.fieldLink RX7 24 "DeltaWindows" "output" "LDeltaWindows$Row;", Cond.fieldLink RX7 48 "DeltaWindows" "decoded" "LDeltaWindows$Caches;", Cond.fieldLink RX7 52 "DeltaWindows" "decodedWindows" "I", Cond.methodLink RX7 84 yX2_readDelta, Cond.instanceMethod yX2_readDelta, Cond.selects RX2 yX2_readDelta yX2_readDelta, Cond.initialized RX2, Cond.code yX2_readDelta cX2_readDelta 4 (some .int), Cond.fieldLink RX2 20 "DeltaWindows$Decoder" "made" "LDeltaWindows$Row;", Cond.fieldLink RX2 26 "DeltaWindows$Decoder" "caches" "LDeltaWindows$Caches;", Cond.fieldLink RX2 48 "DeltaWindows$Decoder" "windowsRead" "I", Cond.fieldLink RX2 35 "DeltaWindows$Decoder" "whole" "LDeltaWindows$Reader;", Cond.methodLink RX2 67 yX6_keep, Cond.instanceMethod yX6_keep, Cond.selects RX6 yX6_keep yX6_keep, Cond.initialized RX6, Cond.code yX6_keep cX6_keep 2 none, Cond.fieldLink RX6 15 "DeltaWindows$Row" "count" "I", Cond.methodLink RX2 70 yX0_clear, Cond.instanceMethod yX0_clear, Cond.selects RX0 yX0_clear yX0_clear, Cond.initialized RX0, Cond.code yX0_clear cX0_clear 1 none]
def wsX7_decode_r2 : List Cond := [Cond.fieldLink RX0 9 "DeltaWindows$Caches" "near" "[I", Cond.fieldLink RX0 15 "DeltaWindows$Caches" "same" "[I", Cond.fieldLink RX0 18 "DeltaWindows$Caches" "copies" "I", Cond.methodLink RX0 22 yJ7_fill_53178, Cond.static yJ7_fill_53178, Cond.initialized RJ7, Cond.code yJ7_fill_53178 cJ7_fill_53178 4 none, Cond.methodLink RX2 73 yX5_open, Cond.instanceMethod yX5_open, Cond.selects RX5 yX5_open yX5_open, Cond.initialized RX5, Cond.code yX5_open cX5_open 3 none, Cond.fieldLink RX5 9 "DeltaWindows$Reader" "row" "LDeltaWindows$Row;", Cond.methodLink RX5 27 Lib.Math.min.name, Cond.static Lib.Math.min.name, Cond.initialized "java/lang/Math", Cond.code Lib.Math.min.name Lib.Math.min.code 2 (some .int), Cond.methodLink RX5 33 Lib.Math.max.name, Cond.static Lib.Math.max.name, Cond.code Lib.Math.max.name Lib.Math.max.code 2 (some .int), Cond.fieldLink RX5 15 "DeltaWindows$Reader" "place" "I", Cond.fieldLink RX5 19 "DeltaWindows$Reader" "end" "I", Cond.methodLink RX2 77 yX2_readHead, Cond.instanceMethod yX2_readHead]
def wsX7_decode_r3 : List Cond := [Cond.selects RX2 yX2_readHead yX2_readHead, Cond.code yX2_readHead cX2_readHead 5 (some .boolean), Cond.methodLink RX2 99 yX5_nextByte, Cond.instanceMethod yX5_nextByte, Cond.selects RX5 yX5_nextByte yX5_nextByte, Cond.code yX5_nextByte cX5_nextByte 2 (some .int), Cond.methodLink RX2 81 yX5_left, Cond.instanceMethod yX5_left, Cond.selects RX5 yX5_left yX5_left, Cond.code yX5_left cX5_left 1 (some .int), Cond.methodLink RX2 85 yX2_readWindowHead, Cond.instanceMethod yX2_readWindowHead, Cond.selects RX2 yX2_readWindowHead yX2_readWindowHead, Cond.code yX2_readWindowHead cX2_readWindowHead 5 (some .int), Cond.fieldLink RX2 61 "DeltaWindows$Decoder" "windowStart" "I", Cond.fieldLink RX2 64 "DeltaWindows$Decoder" "windowEnd" "I", Cond.methodLink RX2 102 yX2_readSegment, Cond.instanceMethod yX2_readSegment, Cond.selects RX2 yX2_readSegment yX2_readSegment, Cond.code yX2_readSegment cX2_readSegment 4 (some .boolean), Cond.fieldLink RX2 9 "DeltaWindows$Decoder" "source" "LDeltaWindows$Row;", Cond.fieldLink RX2 52 "DeltaWindows$Decoder" "segment" "LDeltaWindows$Row;", Cond.fieldLink RX2 55 "DeltaWindows$Decoder" "segmentPlace" "I", Cond.fieldLink RX2 58 "DeltaWindows$Decoder" "segmentSize" "I"]
def wsX7_decode_r4 : List Cond := [Cond.methodLink RX2 105 yX5_nextInteger, Cond.instanceMethod yX5_nextInteger, Cond.selects RX5 yX5_nextInteger yX5_nextInteger, Cond.code yX5_nextInteger cX5_nextInteger 5 (some .int), Cond.constantLong RX5 44 (128), Cond.constantLong RX5 46 (2147483647), Cond.methodLink RX5 40 yX5_nextByte, Cond.methodLink RX2 92 yX6_count, Cond.instanceMethod yX6_count, Cond.selects RX6 yX6_count yX6_count, Cond.code yX6_count cX6_count 1 (some .int), Cond.methodLink RX2 108 yX5_place, Cond.instanceMethod yX5_place, Cond.selects RX5 yX5_place yX5_place, Cond.code yX5_place cX5_place 1 (some .int), Cond.methodLink RX2 111 yX2_readParts, Cond.instanceMethod yX2_readParts, Cond.selects RX2 yX2_readParts yX2_readParts, Cond.code yX2_readParts cX2_readParts 9 (some .boolean), Cond.fieldLink RX2 39 "DeltaWindows$Decoder" "data" "LDeltaWindows$Reader;", Cond.fieldLink RX2 42 "DeltaWindows$Decoder" "codes" "LDeltaWindows$Reader;", Cond.fieldLink RX2 45 "DeltaWindows$Decoder" "addresses" "LDeltaWindows$Reader;", Cond.methodLink RX2 89 yX2_makeWindow, Cond.instanceMethod yX2_makeWindow]
def wsX7_decode_r5 : List Cond := [Cond.selects RX2 yX2_makeWindow yX2_makeWindow, Cond.code yX2_makeWindow cX2_makeWindow 3 (some .boolean), Cond.methodLink RX2 115 yX2_follow, Cond.instanceMethod yX2_follow, Cond.selects RX2 yX2_follow yX2_follow, Cond.code yX2_follow cX2_follow 4 (some .boolean), Cond.methodLink RX2 118 yX1_partOf, Cond.static yX1_partOf, Cond.initialized RX1, Cond.code yX1_partOf cX1_partOf 5 (some .int), Cond.methodLink RX1 11 yX1_partOfSingle, Cond.static yX1_partOfSingle, Cond.code yX1_partOfSingle cX1_partOfSingle 5 (some .int), Cond.methodLink RX1 15 yX1_partOfAddCopy, Cond.static yX1_partOfAddCopy, Cond.code yX1_partOfAddCopy cX1_partOfAddCopy 4 (some .int), Cond.methodLink RX1 19 yX1_partOfCopyAdd, Cond.static yX1_partOfCopyAdd, Cond.code yX1_partOfCopyAdd cX1_partOfCopyAdd 2 (some .int), Cond.methodLink RX2 124 yX2_add, Cond.instanceMethod yX2_add, Cond.selects RX2 yX2_add yX2_add, Cond.code yX2_add cX2_add 3 (some .boolean), Cond.methodLink RX2 139 yX6_append]
def wsX7_decode_r6 : List Cond := [Cond.instanceMethod yX6_append, Cond.selects RX6 yX6_append yX6_append, Cond.code yX6_append cX6_append 2 none, Cond.fieldLink RX6 9 "DeltaWindows$Row" "bytes" "[I", Cond.methodLink RX2 128 yX2_run, Cond.instanceMethod yX2_run, Cond.selects RX2 yX2_run yX2_run, Cond.code yX2_run cX2_run 4 (some .boolean), Cond.methodLink RX2 131 yX2_readAddress, Cond.instanceMethod yX2_readAddress, Cond.selects RX2 yX2_readAddress yX2_readAddress, Cond.code yX2_readAddress cX2_readAddress 3 (some .long), Cond.constantLong RX2 154 (-1), Cond.methodLink RX2 156 yX0_same, Cond.instanceMethod yX0_same, Cond.selects RX0 yX0_same yX0_same, Cond.code yX0_same cX0_same 2 (some .int), Cond.methodLink RX2 142 yX2_here, Cond.instanceMethod yX2_here, Cond.selects RX2 yX2_here yX2_here, Cond.code yX2_here cX2_here 1 (some .int), Cond.methodLink RX2 159 yX0_addressFor, Cond.instanceMethod yX0_addressFor, Cond.selects RX0 yX0_addressFor yX0_addressFor]
def wsX7_decode_r7 : List Cond := [Cond.code yX0_addressFor cX0_addressFor 4 (some .long), Cond.methodLink RX2 135 yX2_copy, Cond.instanceMethod yX2_copy, Cond.selects RX2 yX2_copy yX2_copy, Cond.code yX2_copy cX2_copy 5 (some .boolean), Cond.methodLink RX2 145 yX2_stringAt, Cond.instanceMethod yX2_stringAt, Cond.selects RX2 yX2_stringAt yX2_stringAt, Cond.code yX2_stringAt cX2_stringAt 2 (some .int), Cond.methodLink RX2 151 yX6_at, Cond.instanceMethod yX6_at, Cond.selects RX6 yX6_at yX6_at, Cond.code yX6_at cX6_at 2 (some .int), Cond.methodLink RX2 148 yX0_learn, Cond.instanceMethod yX0_learn, Cond.selects RX0 yX0_learn yX0_learn, Cond.code yX0_learn cX0_learn 2 none, Cond.methodLink RX0 28 yJ9_floorMod_7cf53, Cond.static yJ9_floorMod_7cf53, Cond.initialized RJ9, Cond.code yJ9_floorMod_7cf53 cJ9_floorMod_7cf53 3 (some .int), Cond.methodLink RX7 91 yX6_become, Cond.instanceMethod yX6_become, Cond.selects RX6 yX6_become yX6_become]
def wsX7_decode_r8 : List Cond := [Cond.code yX6_become cX6_become 2 none, Cond.methodLink RX6 23 yX6_appendRow, Cond.instanceMethod yX6_appendRow, Cond.selects RX6 yX6_appendRow yX6_appendRow, Cond.code yX6_appendRow cX6_appendRow 3 none, Cond.methodLink RX6 19 yX6_append, Cond.methodLink RX7 98 yX0_become, Cond.instanceMethod yX0_become, Cond.selects RX0 yX0_become yX0_become, Cond.code yX0_become cX0_become 2 none, Cond.methodLink RX0 38 arraycopyName, Cond.native arraycopyName, Cond.static arraycopyName, Cond.initialized "java/lang/System"]
def wsX7_decode : List Cond := .code yX7_decode cX7_decode 3 (some .int) :: ((wsX7_decode_r1 ++ (wsX7_decode_r2 ++ (wsX7_decode_r3 ++ (wsX7_decode_r4 ++ (wsX7_decode_r5 ++ (wsX7_decode_r6 ++ (wsX7_decode_r7 ++ wsX7_decode_r8))))))) ++ wsX70 ++ wsX20 ++ wsX60 ++ wsX00 ++ wsX50)
def wsX7_length : List Cond := .code yX7_length cX7_length 3 (some .int) :: ([.methodLink RX7 104 yX7_anyRow, .instanceMethod yX7_anyRow, .selects RX7 yX7_anyRow yX7_anyRow, .initialized RX7, .code yX7_anyRow cX7_anyRow 2 (some (.object "DeltaWindows$Row")), .fieldLink RX7 14 "DeltaWindows" "source" "LDeltaWindows$Row;", .fieldLink RX7 18 "DeltaWindows" "target" "LDeltaWindows$Row;", .fieldLink RX7 21 "DeltaWindows" "delta" "LDeltaWindows$Row;", .fieldLink RX7 24 "DeltaWindows" "output" "LDeltaWindows$Row;", .methodLink RX7 71 yX6_count, .instanceMethod yX6_count, .selects RX6 yX6_count yX6_count, .initialized RX6, .code yX6_count cX6_count 1 (some .int), .fieldLink RX6 15 "DeltaWindows$Row" "count" "I"] ++ wsX70 ++ wsX60)
def wsX7_byteAt : List Cond := .code yX7_byteAt cX7_byteAt 4 (some .int) :: ([.methodLink RX7 104 yX7_anyRow, .instanceMethod yX7_anyRow, .selects RX7 yX7_anyRow yX7_anyRow, .initialized RX7, .code yX7_anyRow cX7_anyRow 2 (some (.object "DeltaWindows$Row")), .fieldLink RX7 14 "DeltaWindows" "source" "LDeltaWindows$Row;", .fieldLink RX7 18 "DeltaWindows" "target" "LDeltaWindows$Row;", .fieldLink RX7 21 "DeltaWindows" "delta" "LDeltaWindows$Row;", .fieldLink RX7 24 "DeltaWindows" "output" "LDeltaWindows$Row;", .methodLink RX7 71 yX6_count, .instanceMethod yX6_count, .selects RX6 yX6_count yX6_count, .initialized RX6, .code yX6_count cX6_count 1 (some .int), .fieldLink RX6 15 "DeltaWindows$Row" "count" "I", .methodLink RX7 107 yX6_at, .instanceMethod yX6_at, .selects RX6 yX6_at yX6_at, .code yX6_at cX6_at 2 (some .int), .fieldLink RX6 9 "DeltaWindows$Row" "bytes" "[I"] ++ wsX70 ++ wsX60)
def wsX7_code : List Cond := .code yX7_code cX7_code 3 (some .int) :: ([.methodLink RX7 110 yX1_partOf, .static yX1_partOf, .initialized RX1, .code yX1_partOf cX1_partOf 5 (some .int), .methodLink RX1 11 yX1_partOfSingle, .static yX1_partOfSingle, .code yX1_partOfSingle cX1_partOfSingle 5 (some .int), .methodLink RX1 15 yX1_partOfAddCopy, .static yX1_partOfAddCopy, .code yX1_partOfAddCopy cX1_partOfAddCopy 4 (some .int), .methodLink RX1 19 yX1_partOfCopyAdd, .static yX1_partOfCopyAdd, .code yX1_partOfCopyAdd cX1_partOfCopyAdd 2 (some .int)])
def wsX7_cache : List Cond := .code yX7_cache cX7_cache 4 (some .int) :: ([.fieldLink RX7 32 "DeltaWindows" "encoder" "LDeltaWindows$Encoder;", .fieldLink RX7 48 "DeltaWindows" "decoded" "LDeltaWindows$Caches;", .methodLink RX7 117 yX0_near, .instanceMethod yX0_near, .selects RX0 yX0_near yX0_near, .initialized RX0, .code yX0_near cX0_near 2 (some .int), .fieldLink RX0 9 "DeltaWindows$Caches" "near" "[I", .methodLink RX7 120 yX0_same, .instanceMethod yX0_same, .selects RX0 yX0_same yX0_same, .code yX0_same cX0_same 2 (some .int), .fieldLink RX0 15 "DeltaWindows$Caches" "same" "[I"] ++ wsX70 ++ wsX30 ++ wsX00)
def wsX7_windows : List Cond := .code yX7_windows cX7_windows 1 (some .int) :: ([.fieldLink RX7 52 "DeltaWindows" "decodedWindows" "I"] ++ wsX70)
def wsX7_agrees : List Cond := .code yX7_agrees cX7_agrees 2 (some .boolean) :: ([.fieldLink RX7 24 "DeltaWindows" "output" "LDeltaWindows$Row;", .fieldLink RX7 18 "DeltaWindows" "target" "LDeltaWindows$Row;", .methodLink RX7 71 yX6_count, .instanceMethod yX6_count, .selects RX6 yX6_count yX6_count, .initialized RX6, .code yX6_count cX6_count 1 (some .int), .fieldLink RX6 15 "DeltaWindows$Row" "count" "I", .methodLink RX7 107 yX6_at, .instanceMethod yX6_at, .selects RX6 yX6_at yX6_at, .code yX6_at cX6_at 2 (some .int), .fieldLink RX6 9 "DeltaWindows$Row" "bytes" "[I"] ++ wsX70 ++ wsX60)
def wsX8_init : List Cond := .code yX8_init cX8_init 1 none :: ([.methodLink RX8 1 objectInit, .instanceMethod objectInit, .code objectInit ⟨#[0xb1]⟩ 1 none, .arrayClass .int, .fieldLink RX8 7 "DeltaWindowsModel" "cell" "[I", .fieldLink RX8 13 "DeltaWindowsModel" "length" "[I", .fieldLink RX8 16 "DeltaWindowsModel" "near" "[I", .fieldLink RX8 19 "DeltaWindowsModel" "same" "[I", .fieldLink RX8 22 "DeltaWindowsModel" "shown" "[I", .fieldLink RX8 25 "DeltaWindowsModel" "kind" "[I", .fieldLink RX8 28 "DeltaWindowsModel" "size" "[I", .fieldLink RX8 31 "DeltaWindowsModel" "mode" "[I", .fieldLink RX8 34 "DeltaWindowsModel" "section" "[I", .fieldLink RX8 37 "DeltaWindowsModel" "written" "[I", .fieldLink RX8 40 "DeltaWindowsModel" "place" "[I", .fieldLink RX8 43 "DeltaWindowsModel" "stop" "[I"] ++ wsX80)
def wsX8_most : List Cond := .code yX8_most cX8_most 1 (some .int) :: ([])
def wsX8_isByte : List Cond := .code yX8_isByte cX8_isByte 1 (some .boolean) :: ([])
def wsX8_append : List Cond := .code yX8_append cX8_append 3 none :: ([.fieldLink RX8 7 "DeltaWindowsModel" "cell" "[I", .fieldLink RX8 13 "DeltaWindowsModel" "length" "[I"] ++ wsX80)
def wsX8_put : List Cond := .code yX8_put cX8_put 5 (some .boolean) :: ([.fieldLink RX8 13 "DeltaWindowsModel" "length" "[I", .methodLink RX8 46 yX8_isByte, .static yX8_isByte, .initialized RX8, .code yX8_isByte cX8_isByte 1 (some .boolean), .methodLink RX8 50 yX8_most, .static yX8_most, .code yX8_most cX8_most 1 (some .int), .methodLink RX8 54 yX8_append, .instanceMethod yX8_append, .selects RX8 yX8_append yX8_append, .code yX8_append cX8_append 3 none, .fieldLink RX8 7 "DeltaWindowsModel" "cell" "[I"] ++ wsX80)
def wsX8_cut : List Cond := .code yX8_cut cX8_cut 3 (some .boolean) :: ([.fieldLink RX8 13 "DeltaWindowsModel" "length" "[I"] ++ wsX80)
def wsX8_set : List Cond := .code yX8_set cX8_set 4 (some .boolean) :: ([.fieldLink RX8 13 "DeltaWindowsModel" "length" "[I", .fieldLink RX8 7 "DeltaWindowsModel" "cell" "[I", .methodLink RX8 46 yX8_isByte, .static yX8_isByte, .initialized RX8, .code yX8_isByte cX8_isByte 1 (some .boolean)] ++ wsX80)
def wsX8_length : List Cond := .code yX8_length cX8_length 2 (some .int) :: ([.fieldLink RX8 13 "DeltaWindowsModel" "length" "[I"] ++ wsX80)
def wsX8_byteAt : List Cond := .code yX8_byteAt cX8_byteAt 3 (some .int) :: ([.fieldLink RX8 13 "DeltaWindowsModel" "length" "[I", .fieldLink RX8 7 "DeltaWindowsModel" "cell" "[I"] ++ wsX80)
def wsX8_agrees : List Cond := .code yX8_agrees cX8_agrees 3 (some .boolean) :: ([.fieldLink RX8 13 "DeltaWindowsModel" "length" "[I", .fieldLink RX8 7 "DeltaWindowsModel" "cell" "[I"] ++ wsX80)
def wsX8_part : List Cond := .code yX8_part cX8_part 5 (some .int) :: ([])
def wsX8_code : List Cond := .code yX8_code cX8_code 3 (some .int) :: ([.methodLink RX8 46 yX8_isByte, .static yX8_isByte, .initialized RX8, .code yX8_isByte cX8_isByte 1 (some .boolean), .methodLink RX8 58 yX8_part, .static yX8_part, .code yX8_part cX8_part 5 (some .int)])
def wsX8_find : List Cond := .code yX8_find cX8_find 9 (some .int) :: ([.methodLink RX8 58 yX8_part, .static yX8_part, .initialized RX8, .code yX8_part cX8_part 5 (some .int)])
def wsX8_forget : List Cond := .code yX8_forget cX8_forget 2 none :: ([.fieldLink RX8 16 "DeltaWindowsModel" "near" "[I", .fieldLink RX8 19 "DeltaWindowsModel" "same" "[I", .fieldLink RX8 62 "DeltaWindowsModel" "turn" "I"] ++ wsX80)
def wsX8_note : List Cond := .code yX8_note cX8_note 2 none :: ([.fieldLink RX8 16 "DeltaWindowsModel" "near" "[I", .fieldLink RX8 62 "DeltaWindowsModel" "turn" "I", .fieldLink RX8 19 "DeltaWindowsModel" "same" "[I"] ++ wsX80)
def wsX8_show : List Cond := .code yX8_show cX8_show 3 none :: ([.fieldLink RX8 22 "DeltaWindowsModel" "shown" "[I", .fieldLink RX8 16 "DeltaWindowsModel" "near" "[I", .fieldLink RX8 19 "DeltaWindowsModel" "same" "[I"] ++ wsX80)
def wsX8_cache : List Cond := .code yX8_cache cX8_cache 3 (some .int) :: ([.fieldLink RX8 22 "DeltaWindowsModel" "shown" "[I"] ++ wsX80)
def wsX8_write : List Cond := .code yX8_write cX8_write 3 none :: ([.fieldLink RX8 34 "DeltaWindowsModel" "section" "[I", .fieldLink RX8 37 "DeltaWindowsModel" "written" "[I"] ++ wsX80)
def wsX8_bytesOf : List Cond := .code yX8_bytesOf cX8_bytesOf 3 (some .int) :: ([])
def wsX8_byteOf : List Cond := .code yX8_byteOf cX8_byteOf 3 (some .int) :: ([])
def wsX8_writeInteger : List Cond := .code yX8_writeInteger cX8_writeInteger 5 none :: ([.methodLink RX8 66 yX8_bytesOf, .static yX8_bytesOf, .initialized RX8, .code yX8_bytesOf cX8_bytesOf 3 (some .int), .methodLink RX8 69 yX8_byteOf, .static yX8_byteOf, .code yX8_byteOf cX8_byteOf 3 (some .int), .methodLink RX8 73 yX8_write, .instanceMethod yX8_write, .selects RX8 yX8_write yX8_write, .code yX8_write cX8_write 3 none, .fieldLink RX8 34 "DeltaWindowsModel" "section" "[I", .fieldLink RX8 37 "DeltaWindowsModel" "written" "[I"] ++ wsX80)
def wsX8_appendInteger : List Cond := .code yX8_appendInteger cX8_appendInteger 4 none :: ([.methodLink RX8 66 yX8_bytesOf, .static yX8_bytesOf, .initialized RX8, .code yX8_bytesOf cX8_bytesOf 3 (some .int), .methodLink RX8 69 yX8_byteOf, .static yX8_byteOf, .code yX8_byteOf cX8_byteOf 3 (some .int), .methodLink RX8 54 yX8_append, .instanceMethod yX8_append, .selects RX8 yX8_append yX8_append, .code yX8_append cX8_append 3 none, .fieldLink RX8 7 "DeltaWindowsModel" "cell" "[I", .fieldLink RX8 13 "DeltaWindowsModel" "length" "[I"] ++ wsX80)
def wsX8_stringAt : List Cond := .code yX8_stringAt cX8_stringAt 3 (some .int) :: ([.fieldLink RX8 13 "DeltaWindowsModel" "length" "[I", .fieldLink RX8 7 "DeltaWindowsModel" "cell" "[I"] ++ wsX80)
def wsX8_reach : List Cond := .code yX8_reach cX8_reach 6 (some .int) :: ([.fieldLink RX8 7 "DeltaWindowsModel" "cell" "[I", .methodLink RX8 76 yX8_stringAt, .instanceMethod yX8_stringAt, .selects RX8 yX8_stringAt yX8_stringAt, .initialized RX8, .code yX8_stringAt cX8_stringAt 3 (some .int), .fieldLink RX8 13 "DeltaWindowsModel" "length" "[I"] ++ wsX80)
def wsX8_runFrom : List Cond := .code yX8_runFrom cX8_runFrom 4 (some .int) :: ([.fieldLink RX8 7 "DeltaWindowsModel" "cell" "[I"] ++ wsX80)
def wsX8_instruct : List Cond := .code yX8_instruct cX8_instruct 4 none :: ([.fieldLink RX8 25 "DeltaWindowsModel" "kind" "[I", .fieldLink RX8 79 "DeltaWindowsModel" "many" "I", .fieldLink RX8 28 "DeltaWindowsModel" "size" "[I", .fieldLink RX8 31 "DeltaWindowsModel" "mode" "[I"] ++ wsX80)
def wsX8_addByte : List Cond := .code yX8_addByte cX8_addByte 2 none :: ([.fieldLink RX8 79 "DeltaWindowsModel" "many" "I", .fieldLink RX8 25 "DeltaWindowsModel" "kind" "[I", .fieldLink RX8 28 "DeltaWindowsModel" "size" "[I", .methodLink RX8 82 yX8_instruct, .instanceMethod yX8_instruct, .selects RX8 yX8_instruct yX8_instruct, .initialized RX8, .code yX8_instruct cX8_instruct 4 none, .fieldLink RX8 31 "DeltaWindowsModel" "mode" "[I", .methodLink RX8 73 yX8_write, .instanceMethod yX8_write, .selects RX8 yX8_write yX8_write, .code yX8_write cX8_write 3 none, .fieldLink RX8 34 "DeltaWindowsModel" "section" "[I", .fieldLink RX8 37 "DeltaWindowsModel" "written" "[I"] ++ wsX80)
def wsX8_distance : List Cond := .code yX8_distance cX8_distance 4 (some .int) :: ([.fieldLink RX8 16 "DeltaWindowsModel" "near" "[I"] ++ wsX80)
def wsX8_copy_r1 : List Cond := [Cond.fieldLink RX8 19 "DeltaWindowsModel" "same" "[I", Cond.methodLink RX8 86 yX8_distance, Cond.instanceMethod yX8_distance, Cond.selects RX8 yX8_distance yX8_distance, Cond.initialized RX8, Cond.code yX8_distance cX8_distance 4 (some .int), Cond.fieldLink RX8 16 "DeltaWindowsModel" "near" "[I", Cond.methodLink RX8 73 yX8_write, Cond.instanceMethod yX8_write, Cond.selects RX8 yX8_write yX8_write, Cond.code yX8_write cX8_write 3 none, Cond.fieldLink RX8 34 "DeltaWindowsModel" "section" "[I", Cond.fieldLink RX8 37 "DeltaWindowsModel" "written" "[I", Cond.methodLink RX8 89 yX8_writeInteger, Cond.instanceMethod yX8_writeInteger, Cond.selects RX8 yX8_writeInteger yX8_writeInteger, Cond.code yX8_writeInteger cX8_writeInteger 5 none, Cond.methodLink RX8 66 yX8_bytesOf, Cond.static yX8_bytesOf, Cond.code yX8_bytesOf cX8_bytesOf 3 (some .int), Cond.methodLink RX8 69 yX8_byteOf, Cond.static yX8_byteOf, Cond.code yX8_byteOf cX8_byteOf 3 (some .int), Cond.methodLink RX8 82 yX8_instruct]
def wsX8_copy_r2 : List Cond := [Cond.instanceMethod yX8_instruct, Cond.selects RX8 yX8_instruct yX8_instruct, Cond.code yX8_instruct cX8_instruct 4 none, Cond.fieldLink RX8 25 "DeltaWindowsModel" "kind" "[I", Cond.fieldLink RX8 79 "DeltaWindowsModel" "many" "I", Cond.fieldLink RX8 28 "DeltaWindowsModel" "size" "[I", Cond.fieldLink RX8 31 "DeltaWindowsModel" "mode" "[I", Cond.methodLink RX8 92 yX8_note, Cond.instanceMethod yX8_note, Cond.selects RX8 yX8_note yX8_note, Cond.code yX8_note cX8_note 2 none, Cond.fieldLink RX8 62 "DeltaWindowsModel" "turn" "I"]
def wsX8_copy : List Cond := .code yX8_copy cX8_copy 6 none :: ((wsX8_copy_r1 ++ wsX8_copy_r2) ++ wsX80)
def wsX8_findInstructions_r1 : List Cond := [Cond.fieldLink RX8 13 "DeltaWindowsModel" "length" "[I", Cond.fieldLink RX8 7 "DeltaWindowsModel" "cell" "[I", Cond.methodLink RX8 96 yX8_reach, Cond.instanceMethod yX8_reach, Cond.selects RX8 yX8_reach yX8_reach, Cond.initialized RX8, Cond.code yX8_reach cX8_reach 6 (some .int), Cond.methodLink RX8 76 yX8_stringAt, Cond.instanceMethod yX8_stringAt, Cond.selects RX8 yX8_stringAt yX8_stringAt, Cond.code yX8_stringAt cX8_stringAt 3 (some .int), Cond.methodLink RX8 100 yX8_runFrom, Cond.instanceMethod yX8_runFrom, Cond.selects RX8 yX8_runFrom yX8_runFrom, Cond.code yX8_runFrom cX8_runFrom 4 (some .int), Cond.methodLink RX8 82 yX8_instruct, Cond.instanceMethod yX8_instruct, Cond.selects RX8 yX8_instruct yX8_instruct, Cond.code yX8_instruct cX8_instruct 4 none, Cond.fieldLink RX8 25 "DeltaWindowsModel" "kind" "[I", Cond.fieldLink RX8 79 "DeltaWindowsModel" "many" "I", Cond.fieldLink RX8 28 "DeltaWindowsModel" "size" "[I", Cond.fieldLink RX8 31 "DeltaWindowsModel" "mode" "[I", Cond.methodLink RX8 73 yX8_write]
def wsX8_findInstructions_r2 : List Cond := [Cond.instanceMethod yX8_write, Cond.selects RX8 yX8_write yX8_write, Cond.code yX8_write cX8_write 3 none, Cond.fieldLink RX8 34 "DeltaWindowsModel" "section" "[I", Cond.fieldLink RX8 37 "DeltaWindowsModel" "written" "[I", Cond.methodLink RX8 103 yX8_copy, Cond.instanceMethod yX8_copy, Cond.selects RX8 yX8_copy yX8_copy, Cond.code yX8_copy cX8_copy 6 none, Cond.fieldLink RX8 19 "DeltaWindowsModel" "same" "[I", Cond.methodLink RX8 86 yX8_distance, Cond.instanceMethod yX8_distance, Cond.selects RX8 yX8_distance yX8_distance, Cond.code yX8_distance cX8_distance 4 (some .int), Cond.fieldLink RX8 16 "DeltaWindowsModel" "near" "[I", Cond.methodLink RX8 89 yX8_writeInteger, Cond.instanceMethod yX8_writeInteger, Cond.selects RX8 yX8_writeInteger yX8_writeInteger, Cond.code yX8_writeInteger cX8_writeInteger 5 none, Cond.methodLink RX8 66 yX8_bytesOf, Cond.static yX8_bytesOf, Cond.code yX8_bytesOf cX8_bytesOf 3 (some .int), Cond.methodLink RX8 69 yX8_byteOf, Cond.static yX8_byteOf]
def wsX8_findInstructions_r3 : List Cond := [Cond.code yX8_byteOf cX8_byteOf 3 (some .int), Cond.methodLink RX8 92 yX8_note, Cond.instanceMethod yX8_note, Cond.selects RX8 yX8_note yX8_note, Cond.code yX8_note cX8_note 2 none, Cond.fieldLink RX8 62 "DeltaWindowsModel" "turn" "I", Cond.methodLink RX8 106 yX8_addByte, Cond.instanceMethod yX8_addByte, Cond.selects RX8 yX8_addByte yX8_addByte, Cond.code yX8_addByte cX8_addByte 2 none]
def wsX8_findInstructions : List Cond := .code yX8_findInstructions cX8_findInstructions 9 none :: ((wsX8_findInstructions_r1 ++ (wsX8_findInstructions_r2 ++ wsX8_findInstructions_r3)) ++ wsX80)
def wsX8_writeCodes_r1 : List Cond := [Cond.fieldLink RX8 79 "DeltaWindowsModel" "many" "I", Cond.fieldLink RX8 25 "DeltaWindowsModel" "kind" "[I", Cond.fieldLink RX8 28 "DeltaWindowsModel" "size" "[I", Cond.fieldLink RX8 31 "DeltaWindowsModel" "mode" "[I", Cond.methodLink RX8 109 yX8_find, Cond.static yX8_find, Cond.initialized RX8, Cond.code yX8_find cX8_find 9 (some .int), Cond.methodLink RX8 58 yX8_part, Cond.static yX8_part, Cond.code yX8_part cX8_part 5 (some .int), Cond.methodLink RX8 73 yX8_write, Cond.instanceMethod yX8_write, Cond.selects RX8 yX8_write yX8_write, Cond.code yX8_write cX8_write 3 none, Cond.fieldLink RX8 34 "DeltaWindowsModel" "section" "[I", Cond.fieldLink RX8 37 "DeltaWindowsModel" "written" "[I", Cond.methodLink RX8 89 yX8_writeInteger, Cond.instanceMethod yX8_writeInteger, Cond.selects RX8 yX8_writeInteger yX8_writeInteger, Cond.code yX8_writeInteger cX8_writeInteger 5 none, Cond.methodLink RX8 66 yX8_bytesOf, Cond.static yX8_bytesOf, Cond.code yX8_bytesOf cX8_bytesOf 3 (some .int)]
def wsX8_writeCodes_r2 : List Cond := [Cond.methodLink RX8 69 yX8_byteOf, Cond.static yX8_byteOf, Cond.code yX8_byteOf cX8_byteOf 3 (some .int)]
def wsX8_writeCodes : List Cond := .code yX8_writeCodes cX8_writeCodes 4 none :: ((wsX8_writeCodes_r1 ++ wsX8_writeCodes_r2) ++ wsX80)
def wsX8_window_r1 : List Cond := [Cond.fieldLink RX8 79 "DeltaWindowsModel" "many" "I", Cond.fieldLink RX8 37 "DeltaWindowsModel" "written" "[I", Cond.fieldLink RX8 13 "DeltaWindowsModel" "length" "[I", Cond.fieldLink RX8 34 "DeltaWindowsModel" "section" "[I", Cond.methodLink RX8 113 yX8_forget, Cond.instanceMethod yX8_forget, Cond.selects RX8 yX8_forget yX8_forget, Cond.initialized RX8, Cond.code yX8_forget cX8_forget 2 none, Cond.fieldLink RX8 16 "DeltaWindowsModel" "near" "[I", Cond.fieldLink RX8 19 "DeltaWindowsModel" "same" "[I", Cond.fieldLink RX8 62 "DeltaWindowsModel" "turn" "I", Cond.methodLink RX8 116 yX8_findInstructions, Cond.instanceMethod yX8_findInstructions, Cond.selects RX8 yX8_findInstructions yX8_findInstructions, Cond.code yX8_findInstructions cX8_findInstructions 9 none, Cond.fieldLink RX8 7 "DeltaWindowsModel" "cell" "[I", Cond.methodLink RX8 96 yX8_reach, Cond.instanceMethod yX8_reach, Cond.selects RX8 yX8_reach yX8_reach, Cond.code yX8_reach cX8_reach 6 (some .int), Cond.methodLink RX8 76 yX8_stringAt, Cond.instanceMethod yX8_stringAt, Cond.selects RX8 yX8_stringAt yX8_stringAt]
def wsX8_window_r2 : List Cond := [Cond.code yX8_stringAt cX8_stringAt 3 (some .int), Cond.methodLink RX8 100 yX8_runFrom, Cond.instanceMethod yX8_runFrom, Cond.selects RX8 yX8_runFrom yX8_runFrom, Cond.code yX8_runFrom cX8_runFrom 4 (some .int), Cond.methodLink RX8 82 yX8_instruct, Cond.instanceMethod yX8_instruct, Cond.selects RX8 yX8_instruct yX8_instruct, Cond.code yX8_instruct cX8_instruct 4 none, Cond.fieldLink RX8 25 "DeltaWindowsModel" "kind" "[I", Cond.fieldLink RX8 28 "DeltaWindowsModel" "size" "[I", Cond.fieldLink RX8 31 "DeltaWindowsModel" "mode" "[I", Cond.methodLink RX8 73 yX8_write, Cond.instanceMethod yX8_write, Cond.selects RX8 yX8_write yX8_write, Cond.code yX8_write cX8_write 3 none, Cond.methodLink RX8 103 yX8_copy, Cond.instanceMethod yX8_copy, Cond.selects RX8 yX8_copy yX8_copy, Cond.code yX8_copy cX8_copy 6 none, Cond.methodLink RX8 86 yX8_distance, Cond.instanceMethod yX8_distance, Cond.selects RX8 yX8_distance yX8_distance, Cond.code yX8_distance cX8_distance 4 (some .int)]
def wsX8_window_r3 : List Cond := [Cond.methodLink RX8 89 yX8_writeInteger, Cond.instanceMethod yX8_writeInteger, Cond.selects RX8 yX8_writeInteger yX8_writeInteger, Cond.code yX8_writeInteger cX8_writeInteger 5 none, Cond.methodLink RX8 66 yX8_bytesOf, Cond.static yX8_bytesOf, Cond.code yX8_bytesOf cX8_bytesOf 3 (some .int), Cond.methodLink RX8 69 yX8_byteOf, Cond.static yX8_byteOf, Cond.code yX8_byteOf cX8_byteOf 3 (some .int), Cond.methodLink RX8 92 yX8_note, Cond.instanceMethod yX8_note, Cond.selects RX8 yX8_note yX8_note, Cond.code yX8_note cX8_note 2 none, Cond.methodLink RX8 106 yX8_addByte, Cond.instanceMethod yX8_addByte, Cond.selects RX8 yX8_addByte yX8_addByte, Cond.code yX8_addByte cX8_addByte 2 none, Cond.methodLink RX8 119 yX8_writeCodes, Cond.instanceMethod yX8_writeCodes, Cond.selects RX8 yX8_writeCodes yX8_writeCodes, Cond.code yX8_writeCodes cX8_writeCodes 4 none, Cond.methodLink RX8 109 yX8_find, Cond.static yX8_find]
def wsX8_window_r4 : List Cond := [Cond.code yX8_find cX8_find 9 (some .int), Cond.methodLink RX8 58 yX8_part, Cond.static yX8_part, Cond.code yX8_part cX8_part 5 (some .int), Cond.methodLink RX8 54 yX8_append, Cond.instanceMethod yX8_append, Cond.selects RX8 yX8_append yX8_append, Cond.code yX8_append cX8_append 3 none, Cond.methodLink RX8 122 yX8_appendInteger, Cond.instanceMethod yX8_appendInteger, Cond.selects RX8 yX8_appendInteger yX8_appendInteger, Cond.code yX8_appendInteger cX8_appendInteger 4 none]
def wsX8_window : List Cond := .code yX8_window cX8_window 6 none :: ((wsX8_window_r1 ++ (wsX8_window_r2 ++ (wsX8_window_r3 ++ wsX8_window_r4))) ++ wsX80)
def wsX8_head : List Cond := .code yX8_head cX8_head 1 (some .int) :: ([])
def wsX8_encode_r1 : List Cond := [Cond.fieldLink RX8 13 "DeltaWindowsModel" "length" "[I", Cond.methodLink RX8 113 yX8_forget, Cond.instanceMethod yX8_forget, Cond.selects RX8 yX8_forget yX8_forget, Cond.initialized RX8, Cond.code yX8_forget cX8_forget 2 none, Cond.fieldLink RX8 16 "DeltaWindowsModel" "near" "[I", Cond.fieldLink RX8 19 "DeltaWindowsModel" "same" "[I", Cond.fieldLink RX8 62 "DeltaWindowsModel" "turn" "I", Cond.methodLink RX8 125 yX8_head, Cond.static yX8_head, Cond.code yX8_head cX8_head 1 (some .int), Cond.methodLink RX8 54 yX8_append, Cond.instanceMethod yX8_append, Cond.selects RX8 yX8_append yX8_append, Cond.code yX8_append cX8_append 3 none, Cond.fieldLink RX8 7 "DeltaWindowsModel" "cell" "[I", Cond.methodLink RX8 128 yX8_window, Cond.instanceMethod yX8_window, Cond.selects RX8 yX8_window yX8_window, Cond.code yX8_window cX8_window 6 none, Cond.fieldLink RX8 79 "DeltaWindowsModel" "many" "I", Cond.fieldLink RX8 37 "DeltaWindowsModel" "written" "[I", Cond.fieldLink RX8 34 "DeltaWindowsModel" "section" "[I"]
def wsX8_encode_r2 : List Cond := [Cond.methodLink RX8 116 yX8_findInstructions, Cond.instanceMethod yX8_findInstructions, Cond.selects RX8 yX8_findInstructions yX8_findInstructions, Cond.code yX8_findInstructions cX8_findInstructions 9 none, Cond.methodLink RX8 96 yX8_reach, Cond.instanceMethod yX8_reach, Cond.selects RX8 yX8_reach yX8_reach, Cond.code yX8_reach cX8_reach 6 (some .int), Cond.methodLink RX8 76 yX8_stringAt, Cond.instanceMethod yX8_stringAt, Cond.selects RX8 yX8_stringAt yX8_stringAt, Cond.code yX8_stringAt cX8_stringAt 3 (some .int), Cond.methodLink RX8 100 yX8_runFrom, Cond.instanceMethod yX8_runFrom, Cond.selects RX8 yX8_runFrom yX8_runFrom, Cond.code yX8_runFrom cX8_runFrom 4 (some .int), Cond.methodLink RX8 82 yX8_instruct, Cond.instanceMethod yX8_instruct, Cond.selects RX8 yX8_instruct yX8_instruct, Cond.code yX8_instruct cX8_instruct 4 none, Cond.fieldLink RX8 25 "DeltaWindowsModel" "kind" "[I", Cond.fieldLink RX8 28 "DeltaWindowsModel" "size" "[I", Cond.fieldLink RX8 31 "DeltaWindowsModel" "mode" "[I", Cond.methodLink RX8 73 yX8_write]
def wsX8_encode_r3 : List Cond := [Cond.instanceMethod yX8_write, Cond.selects RX8 yX8_write yX8_write, Cond.code yX8_write cX8_write 3 none, Cond.methodLink RX8 103 yX8_copy, Cond.instanceMethod yX8_copy, Cond.selects RX8 yX8_copy yX8_copy, Cond.code yX8_copy cX8_copy 6 none, Cond.methodLink RX8 86 yX8_distance, Cond.instanceMethod yX8_distance, Cond.selects RX8 yX8_distance yX8_distance, Cond.code yX8_distance cX8_distance 4 (some .int), Cond.methodLink RX8 89 yX8_writeInteger, Cond.instanceMethod yX8_writeInteger, Cond.selects RX8 yX8_writeInteger yX8_writeInteger, Cond.code yX8_writeInteger cX8_writeInteger 5 none, Cond.methodLink RX8 66 yX8_bytesOf, Cond.static yX8_bytesOf, Cond.code yX8_bytesOf cX8_bytesOf 3 (some .int), Cond.methodLink RX8 69 yX8_byteOf, Cond.static yX8_byteOf, Cond.code yX8_byteOf cX8_byteOf 3 (some .int), Cond.methodLink RX8 92 yX8_note, Cond.instanceMethod yX8_note, Cond.selects RX8 yX8_note yX8_note]
def wsX8_encode_r4 : List Cond := [Cond.code yX8_note cX8_note 2 none, Cond.methodLink RX8 106 yX8_addByte, Cond.instanceMethod yX8_addByte, Cond.selects RX8 yX8_addByte yX8_addByte, Cond.code yX8_addByte cX8_addByte 2 none, Cond.methodLink RX8 119 yX8_writeCodes, Cond.instanceMethod yX8_writeCodes, Cond.selects RX8 yX8_writeCodes yX8_writeCodes, Cond.code yX8_writeCodes cX8_writeCodes 4 none, Cond.methodLink RX8 109 yX8_find, Cond.static yX8_find, Cond.code yX8_find cX8_find 9 (some .int), Cond.methodLink RX8 58 yX8_part, Cond.static yX8_part, Cond.code yX8_part cX8_part 5 (some .int), Cond.methodLink RX8 122 yX8_appendInteger, Cond.instanceMethod yX8_appendInteger, Cond.selects RX8 yX8_appendInteger yX8_appendInteger, Cond.code yX8_appendInteger cX8_appendInteger 4 none, Cond.methodLink RX8 131 yX8_show, Cond.instanceMethod yX8_show, Cond.selects RX8 yX8_show yX8_show, Cond.code yX8_show cX8_show 3 none, Cond.fieldLink RX8 22 "DeltaWindowsModel" "shown" "[I"]
def wsX8_encode : List Cond := .code yX8_encode cX8_encode 3 (some .int) :: ((wsX8_encode_r1 ++ (wsX8_encode_r2 ++ (wsX8_encode_r3 ++ wsX8_encode_r4))) ++ wsX80)
def wsX8_next : List Cond := .code yX8_next cX8_next 2 (some .int) :: ([.fieldLink RX8 40 "DeltaWindowsModel" "place" "[I", .fieldLink RX8 43 "DeltaWindowsModel" "stop" "[I", .fieldLink RX8 134 "DeltaWindowsModel" "bad" "Z", .fieldLink RX8 7 "DeltaWindowsModel" "cell" "[I"] ++ wsX80)
def wsX8_nextInteger : List Cond := .code yX8_nextInteger cX8_nextInteger 6 (some .int) :: ([.fieldLink RX8 134 "DeltaWindowsModel" "bad" "Z", .constantLong RX8 141 (128), .constantLong RX8 143 (2147483647), .methodLink RX8 138 yX8_next, .instanceMethod yX8_next, .selects RX8 yX8_next yX8_next, .initialized RX8, .code yX8_next cX8_next 2 (some .int), .fieldLink RX8 40 "DeltaWindowsModel" "place" "[I", .fieldLink RX8 43 "DeltaWindowsModel" "stop" "[I", .fieldLink RX8 7 "DeltaWindowsModel" "cell" "[I"] ++ wsX80)
def wsX8_made : List Cond := .code yX8_made cX8_made 1 (some .int) :: ([.fieldLink RX8 13 "DeltaWindowsModel" "length" "[I", .fieldLink RX8 145 "DeltaWindowsModel" "base" "I"] ++ wsX80)
def wsX8_here : List Cond := .code yX8_here cX8_here 1 (some .int) :: ([.fieldLink RX8 148 "DeltaWindowsModel" "segmentLength" "I", .methodLink RX8 151 yX8_made, .instanceMethod yX8_made, .selects RX8 yX8_made yX8_made, .initialized RX8, .code yX8_made cX8_made 1 (some .int), .fieldLink RX8 13 "DeltaWindowsModel" "length" "[I", .fieldLink RX8 145 "DeltaWindowsModel" "base" "I"] ++ wsX80)
def wsX8_readString : List Cond := .code yX8_readString cX8_readString 2 (some .int) :: ([.fieldLink RX8 148 "DeltaWindowsModel" "segmentLength" "I", .fieldLink RX8 7 "DeltaWindowsModel" "cell" "[I", .fieldLink RX8 145 "DeltaWindowsModel" "base" "I", .fieldLink RX8 155 "DeltaWindowsModel" "segment" "I", .fieldLink RX8 158 "DeltaWindowsModel" "segmentPlace" "I"] ++ wsX80)
def wsX8_address_r1 : List Cond := [Cond.fieldLink RX8 19 "DeltaWindowsModel" "same" "[I", Cond.fieldLink RX8 16 "DeltaWindowsModel" "near" "[I", Cond.fieldLink RX8 134 "DeltaWindowsModel" "bad" "Z", Cond.methodLink RX8 138 yX8_next, Cond.instanceMethod yX8_next, Cond.selects RX8 yX8_next yX8_next, Cond.initialized RX8, Cond.code yX8_next cX8_next 2 (some .int), Cond.fieldLink RX8 40 "DeltaWindowsModel" "place" "[I", Cond.fieldLink RX8 43 "DeltaWindowsModel" "stop" "[I", Cond.fieldLink RX8 7 "DeltaWindowsModel" "cell" "[I", Cond.methodLink RX8 161 yX8_nextInteger, Cond.instanceMethod yX8_nextInteger, Cond.selects RX8 yX8_nextInteger yX8_nextInteger, Cond.code yX8_nextInteger cX8_nextInteger 6 (some .int), Cond.constantLong RX8 141 (128), Cond.constantLong RX8 143 (2147483647), Cond.methodLink RX8 164 yX8_here, Cond.instanceMethod yX8_here, Cond.selects RX8 yX8_here yX8_here, Cond.code yX8_here cX8_here 1 (some .int), Cond.fieldLink RX8 148 "DeltaWindowsModel" "segmentLength" "I", Cond.methodLink RX8 151 yX8_made, Cond.instanceMethod yX8_made]
def wsX8_address_r2 : List Cond := [Cond.selects RX8 yX8_made yX8_made, Cond.code yX8_made cX8_made 1 (some .int), Cond.fieldLink RX8 13 "DeltaWindowsModel" "length" "[I", Cond.fieldLink RX8 145 "DeltaWindowsModel" "base" "I"]
def wsX8_address : List Cond := .code yX8_address cX8_address 6 (some .int) :: ((wsX8_address_r1 ++ wsX8_address_r2) ++ wsX80)
def wsX8_perform_r1 : List Cond := [Cond.fieldLink RX8 167 "DeltaWindowsModel" "due" "I", Cond.fieldLink RX8 134 "DeltaWindowsModel" "bad" "Z", Cond.methodLink RX8 151 yX8_made, Cond.instanceMethod yX8_made, Cond.selects RX8 yX8_made yX8_made, Cond.initialized RX8, Cond.code yX8_made cX8_made 1 (some .int), Cond.fieldLink RX8 13 "DeltaWindowsModel" "length" "[I", Cond.fieldLink RX8 145 "DeltaWindowsModel" "base" "I", Cond.methodLink RX8 170 yX8_address, Cond.instanceMethod yX8_address, Cond.selects RX8 yX8_address yX8_address, Cond.code yX8_address cX8_address 6 (some .int), Cond.fieldLink RX8 19 "DeltaWindowsModel" "same" "[I", Cond.fieldLink RX8 16 "DeltaWindowsModel" "near" "[I", Cond.methodLink RX8 138 yX8_next, Cond.instanceMethod yX8_next, Cond.selects RX8 yX8_next yX8_next, Cond.code yX8_next cX8_next 2 (some .int), Cond.fieldLink RX8 40 "DeltaWindowsModel" "place" "[I", Cond.fieldLink RX8 43 "DeltaWindowsModel" "stop" "[I", Cond.fieldLink RX8 7 "DeltaWindowsModel" "cell" "[I", Cond.methodLink RX8 161 yX8_nextInteger, Cond.instanceMethod yX8_nextInteger]
def wsX8_perform_r2 : List Cond := [Cond.selects RX8 yX8_nextInteger yX8_nextInteger, Cond.code yX8_nextInteger cX8_nextInteger 6 (some .int), Cond.constantLong RX8 141 (128), Cond.constantLong RX8 143 (2147483647), Cond.methodLink RX8 164 yX8_here, Cond.instanceMethod yX8_here, Cond.selects RX8 yX8_here yX8_here, Cond.code yX8_here cX8_here 1 (some .int), Cond.fieldLink RX8 148 "DeltaWindowsModel" "segmentLength" "I", Cond.methodLink RX8 173 yX8_readString, Cond.instanceMethod yX8_readString, Cond.selects RX8 yX8_readString yX8_readString, Cond.code yX8_readString cX8_readString 2 (some .int), Cond.fieldLink RX8 155 "DeltaWindowsModel" "segment" "I", Cond.fieldLink RX8 158 "DeltaWindowsModel" "segmentPlace" "I", Cond.methodLink RX8 54 yX8_append, Cond.instanceMethod yX8_append, Cond.selects RX8 yX8_append yX8_append, Cond.code yX8_append cX8_append 3 none, Cond.methodLink RX8 92 yX8_note, Cond.instanceMethod yX8_note, Cond.selects RX8 yX8_note yX8_note, Cond.code yX8_note cX8_note 2 none, Cond.fieldLink RX8 62 "DeltaWindowsModel" "turn" "I"]
def wsX8_perform : List Cond := .code yX8_perform cX8_perform 6 none :: ((wsX8_perform_r1 ++ wsX8_perform_r2) ++ wsX80)
def wsX8_performAll_r1 : List Cond := [Cond.fieldLink RX8 40 "DeltaWindowsModel" "place" "[I", Cond.fieldLink RX8 43 "DeltaWindowsModel" "stop" "[I", Cond.fieldLink RX8 134 "DeltaWindowsModel" "bad" "Z", Cond.fieldLink RX8 167 "DeltaWindowsModel" "due" "I", Cond.methodLink RX8 138 yX8_next, Cond.instanceMethod yX8_next, Cond.selects RX8 yX8_next yX8_next, Cond.initialized RX8, Cond.code yX8_next cX8_next 2 (some .int), Cond.fieldLink RX8 7 "DeltaWindowsModel" "cell" "[I", Cond.methodLink RX8 58 yX8_part, Cond.static yX8_part, Cond.code yX8_part cX8_part 5 (some .int), Cond.methodLink RX8 161 yX8_nextInteger, Cond.instanceMethod yX8_nextInteger, Cond.selects RX8 yX8_nextInteger yX8_nextInteger, Cond.code yX8_nextInteger cX8_nextInteger 6 (some .int), Cond.constantLong RX8 141 (128), Cond.constantLong RX8 143 (2147483647), Cond.methodLink RX8 176 yX8_perform, Cond.instanceMethod yX8_perform, Cond.selects RX8 yX8_perform yX8_perform, Cond.code yX8_perform cX8_perform 6 none, Cond.methodLink RX8 151 yX8_made]
def wsX8_performAll_r2 : List Cond := [Cond.instanceMethod yX8_made, Cond.selects RX8 yX8_made yX8_made, Cond.code yX8_made cX8_made 1 (some .int), Cond.fieldLink RX8 13 "DeltaWindowsModel" "length" "[I", Cond.fieldLink RX8 145 "DeltaWindowsModel" "base" "I", Cond.methodLink RX8 170 yX8_address, Cond.instanceMethod yX8_address, Cond.selects RX8 yX8_address yX8_address, Cond.code yX8_address cX8_address 6 (some .int), Cond.fieldLink RX8 19 "DeltaWindowsModel" "same" "[I", Cond.fieldLink RX8 16 "DeltaWindowsModel" "near" "[I", Cond.methodLink RX8 164 yX8_here, Cond.instanceMethod yX8_here, Cond.selects RX8 yX8_here yX8_here, Cond.code yX8_here cX8_here 1 (some .int), Cond.fieldLink RX8 148 "DeltaWindowsModel" "segmentLength" "I", Cond.methodLink RX8 173 yX8_readString, Cond.instanceMethod yX8_readString, Cond.selects RX8 yX8_readString yX8_readString, Cond.code yX8_readString cX8_readString 2 (some .int), Cond.fieldLink RX8 155 "DeltaWindowsModel" "segment" "I", Cond.fieldLink RX8 158 "DeltaWindowsModel" "segmentPlace" "I", Cond.methodLink RX8 54 yX8_append, Cond.instanceMethod yX8_append]
def wsX8_performAll_r3 : List Cond := [Cond.selects RX8 yX8_append yX8_append, Cond.code yX8_append cX8_append 3 none, Cond.methodLink RX8 92 yX8_note, Cond.instanceMethod yX8_note, Cond.selects RX8 yX8_note yX8_note, Cond.code yX8_note cX8_note 2 none, Cond.fieldLink RX8 62 "DeltaWindowsModel" "turn" "I"]
def wsX8_performAll : List Cond := .code yX8_performAll cX8_performAll 5 none :: ((wsX8_performAll_r1 ++ (wsX8_performAll_r2 ++ wsX8_performAll_r3)) ++ wsX80)
def wsX8_readSegment : List Cond := .code yX8_readSegment cX8_readSegment 3 none :: ([.fieldLink RX8 155 "DeltaWindowsModel" "segment" "I", .fieldLink RX8 148 "DeltaWindowsModel" "segmentLength" "I", .fieldLink RX8 158 "DeltaWindowsModel" "segmentPlace" "I", .fieldLink RX8 134 "DeltaWindowsModel" "bad" "Z", .fieldLink RX8 13 "DeltaWindowsModel" "length" "[I", .methodLink RX8 138 yX8_next, .instanceMethod yX8_next, .selects RX8 yX8_next yX8_next, .initialized RX8, .code yX8_next cX8_next 2 (some .int), .fieldLink RX8 40 "DeltaWindowsModel" "place" "[I", .fieldLink RX8 43 "DeltaWindowsModel" "stop" "[I", .fieldLink RX8 7 "DeltaWindowsModel" "cell" "[I", .methodLink RX8 161 yX8_nextInteger, .instanceMethod yX8_nextInteger, .selects RX8 yX8_nextInteger yX8_nextInteger, .code yX8_nextInteger cX8_nextInteger 6 (some .int), .constantLong RX8 141 (128), .constantLong RX8 143 (2147483647)] ++ wsX80)
def wsX8_readWindow_r1 : List Cond := [Cond.fieldLink RX8 134 "DeltaWindowsModel" "bad" "Z", Cond.fieldLink RX8 40 "DeltaWindowsModel" "place" "[I", Cond.fieldLink RX8 167 "DeltaWindowsModel" "due" "I", Cond.fieldLink RX8 13 "DeltaWindowsModel" "length" "[I", Cond.fieldLink RX8 145 "DeltaWindowsModel" "base" "I", Cond.fieldLink RX8 43 "DeltaWindowsModel" "stop" "[I", Cond.methodLink RX8 179 yX8_readSegment, Cond.instanceMethod yX8_readSegment, Cond.selects RX8 yX8_readSegment yX8_readSegment, Cond.initialized RX8, Cond.code yX8_readSegment cX8_readSegment 3 none, Cond.fieldLink RX8 155 "DeltaWindowsModel" "segment" "I", Cond.fieldLink RX8 148 "DeltaWindowsModel" "segmentLength" "I", Cond.fieldLink RX8 158 "DeltaWindowsModel" "segmentPlace" "I", Cond.methodLink RX8 138 yX8_next, Cond.instanceMethod yX8_next, Cond.selects RX8 yX8_next yX8_next, Cond.code yX8_next cX8_next 2 (some .int), Cond.fieldLink RX8 7 "DeltaWindowsModel" "cell" "[I", Cond.methodLink RX8 161 yX8_nextInteger, Cond.instanceMethod yX8_nextInteger, Cond.selects RX8 yX8_nextInteger yX8_nextInteger, Cond.code yX8_nextInteger cX8_nextInteger 6 (some .int), Cond.constantLong RX8 141 (128)]
def wsX8_readWindow_r2 : List Cond := [Cond.constantLong RX8 143 (2147483647), Cond.methodLink RX8 113 yX8_forget, Cond.instanceMethod yX8_forget, Cond.selects RX8 yX8_forget yX8_forget, Cond.code yX8_forget cX8_forget 2 none, Cond.fieldLink RX8 16 "DeltaWindowsModel" "near" "[I", Cond.fieldLink RX8 19 "DeltaWindowsModel" "same" "[I", Cond.fieldLink RX8 62 "DeltaWindowsModel" "turn" "I", Cond.methodLink RX8 182 yX8_performAll, Cond.instanceMethod yX8_performAll, Cond.selects RX8 yX8_performAll yX8_performAll, Cond.code yX8_performAll cX8_performAll 5 none, Cond.methodLink RX8 58 yX8_part, Cond.static yX8_part, Cond.code yX8_part cX8_part 5 (some .int), Cond.methodLink RX8 176 yX8_perform, Cond.instanceMethod yX8_perform, Cond.selects RX8 yX8_perform yX8_perform, Cond.code yX8_perform cX8_perform 6 none, Cond.methodLink RX8 151 yX8_made, Cond.instanceMethod yX8_made, Cond.selects RX8 yX8_made yX8_made, Cond.code yX8_made cX8_made 1 (some .int), Cond.methodLink RX8 170 yX8_address]
def wsX8_readWindow_r3 : List Cond := [Cond.instanceMethod yX8_address, Cond.selects RX8 yX8_address yX8_address, Cond.code yX8_address cX8_address 6 (some .int), Cond.methodLink RX8 164 yX8_here, Cond.instanceMethod yX8_here, Cond.selects RX8 yX8_here yX8_here, Cond.code yX8_here cX8_here 1 (some .int), Cond.methodLink RX8 173 yX8_readString, Cond.instanceMethod yX8_readString, Cond.selects RX8 yX8_readString yX8_readString, Cond.code yX8_readString cX8_readString 2 (some .int), Cond.methodLink RX8 54 yX8_append, Cond.instanceMethod yX8_append, Cond.selects RX8 yX8_append yX8_append, Cond.code yX8_append cX8_append 3 none, Cond.methodLink RX8 92 yX8_note, Cond.instanceMethod yX8_note, Cond.selects RX8 yX8_note yX8_note, Cond.code yX8_note cX8_note 2 none]
def wsX8_readWindow : List Cond := .code yX8_readWindow cX8_readWindow 15 (some .int) :: ((wsX8_readWindow_r1 ++ (wsX8_readWindow_r2 ++ wsX8_readWindow_r3)) ++ wsX80)
def wsX8_decode_r1 : List Cond := [Cond.fieldLink RX8 134 "DeltaWindowsModel" "bad" "Z", Cond.fieldLink RX8 40 "DeltaWindowsModel" "place" "[I", Cond.fieldLink RX8 43 "DeltaWindowsModel" "stop" "[I", Cond.fieldLink RX8 13 "DeltaWindowsModel" "length" "[I", Cond.fieldLink RX8 7 "DeltaWindowsModel" "cell" "[I", Cond.fieldLink RX8 188 "DeltaWindowsModel" "windows" "I", Cond.methodLink RX8 113 yX8_forget, Cond.instanceMethod yX8_forget, Cond.selects RX8 yX8_forget yX8_forget, Cond.initialized RX8, Cond.code yX8_forget cX8_forget 2 none, Cond.fieldLink RX8 16 "DeltaWindowsModel" "near" "[I", Cond.fieldLink RX8 19 "DeltaWindowsModel" "same" "[I", Cond.fieldLink RX8 62 "DeltaWindowsModel" "turn" "I", Cond.methodLink RX8 138 yX8_next, Cond.instanceMethod yX8_next, Cond.selects RX8 yX8_next yX8_next, Cond.code yX8_next cX8_next 2 (some .int), Cond.methodLink RX8 125 yX8_head, Cond.static yX8_head, Cond.code yX8_head cX8_head 1 (some .int), Cond.methodLink RX8 185 yX8_readWindow, Cond.instanceMethod yX8_readWindow, Cond.selects RX8 yX8_readWindow yX8_readWindow]
def wsX8_decode_r2 : List Cond := [Cond.code yX8_readWindow cX8_readWindow 15 (some .int), Cond.fieldLink RX8 167 "DeltaWindowsModel" "due" "I", Cond.fieldLink RX8 145 "DeltaWindowsModel" "base" "I", Cond.methodLink RX8 179 yX8_readSegment, Cond.instanceMethod yX8_readSegment, Cond.selects RX8 yX8_readSegment yX8_readSegment, Cond.code yX8_readSegment cX8_readSegment 3 none, Cond.fieldLink RX8 155 "DeltaWindowsModel" "segment" "I", Cond.fieldLink RX8 148 "DeltaWindowsModel" "segmentLength" "I", Cond.fieldLink RX8 158 "DeltaWindowsModel" "segmentPlace" "I", Cond.methodLink RX8 161 yX8_nextInteger, Cond.instanceMethod yX8_nextInteger, Cond.selects RX8 yX8_nextInteger yX8_nextInteger, Cond.code yX8_nextInteger cX8_nextInteger 6 (some .int), Cond.constantLong RX8 141 (128), Cond.constantLong RX8 143 (2147483647), Cond.methodLink RX8 182 yX8_performAll, Cond.instanceMethod yX8_performAll, Cond.selects RX8 yX8_performAll yX8_performAll, Cond.code yX8_performAll cX8_performAll 5 none, Cond.methodLink RX8 58 yX8_part, Cond.static yX8_part, Cond.code yX8_part cX8_part 5 (some .int), Cond.methodLink RX8 176 yX8_perform]
def wsX8_decode_r3 : List Cond := [Cond.instanceMethod yX8_perform, Cond.selects RX8 yX8_perform yX8_perform, Cond.code yX8_perform cX8_perform 6 none, Cond.methodLink RX8 151 yX8_made, Cond.instanceMethod yX8_made, Cond.selects RX8 yX8_made yX8_made, Cond.code yX8_made cX8_made 1 (some .int), Cond.methodLink RX8 170 yX8_address, Cond.instanceMethod yX8_address, Cond.selects RX8 yX8_address yX8_address, Cond.code yX8_address cX8_address 6 (some .int), Cond.methodLink RX8 164 yX8_here, Cond.instanceMethod yX8_here, Cond.selects RX8 yX8_here yX8_here, Cond.code yX8_here cX8_here 1 (some .int), Cond.methodLink RX8 173 yX8_readString, Cond.instanceMethod yX8_readString, Cond.selects RX8 yX8_readString yX8_readString, Cond.code yX8_readString cX8_readString 2 (some .int), Cond.methodLink RX8 54 yX8_append, Cond.instanceMethod yX8_append, Cond.selects RX8 yX8_append yX8_append, Cond.code yX8_append cX8_append 3 none, Cond.methodLink RX8 92 yX8_note]
def wsX8_decode_r4 : List Cond := [Cond.instanceMethod yX8_note, Cond.selects RX8 yX8_note yX8_note, Cond.code yX8_note cX8_note 2 none, Cond.methodLink RX8 131 yX8_show, Cond.instanceMethod yX8_show, Cond.selects RX8 yX8_show yX8_show, Cond.code yX8_show cX8_show 3 none, Cond.fieldLink RX8 22 "DeltaWindowsModel" "shown" "[I"]
def wsX8_decode : List Cond := .code yX8_decode cX8_decode 5 (some .int) :: ((wsX8_decode_r1 ++ (wsX8_decode_r2 ++ (wsX8_decode_r3 ++ wsX8_decode_r4))) ++ wsX80)
def wsX8_windows : List Cond := .code yX8_windows cX8_windows 1 (some .int) :: ([.fieldLink RX8 188 "DeltaWindowsModel" "windows" "I"] ++ wsX80)
def wsJ9_max_7cf53 : List Cond := .code yJ9_max_7cf53 cJ9_max_7cf53 2 (some .int) :: ([])
def wsJ9_min_7cf53 : List Cond := .code yJ9_min_7cf53 cJ9_min_7cf53 2 (some .int) :: ([])
def wsL_law_r1 : List Cond := [Cond.classLink RL 7 RX7, Cond.instantiable RX7 8, Cond.initialized RX7, Cond.classLink RL 10 RX8, Cond.instantiable RX8 21, Cond.initialized RX8, Cond.methodLink RL 9 yX7_init, Cond.instanceMethod yX7_init, Cond.code yX7_init cX7_init 1 none, Cond.methodLink RX7 1 objectInit, Cond.instanceMethod objectInit, Cond.code objectInit ⟨#[0xb1]⟩ 1 none, Cond.classLink RX7 7 RX6, Cond.instantiable RX6 2, Cond.initialized RX6, Cond.fieldLink RX7 14 "DeltaWindows" "source" "LDeltaWindows$Row;", Cond.fieldLink RX7 18 "DeltaWindows" "target" "LDeltaWindows$Row;", Cond.fieldLink RX7 21 "DeltaWindows" "delta" "LDeltaWindows$Row;", Cond.fieldLink RX7 24 "DeltaWindows" "output" "LDeltaWindows$Row;", Cond.classLink RX7 27 RX3, Cond.instantiable RX3 12, Cond.initialized RX3, Cond.fieldLink RX7 32 "DeltaWindows" "encoder" "LDeltaWindows$Encoder;", Cond.classLink RX7 36 RX2]
def wsL_law_r2 : List Cond := [Cond.instantiable RX2 13, Cond.initialized RX2, Cond.fieldLink RX7 41 "DeltaWindows" "decoder" "LDeltaWindows$Decoder;", Cond.classLink RX7 45 RX0, Cond.instantiable RX0 3, Cond.initialized RX0, Cond.fieldLink RX7 48 "DeltaWindows" "decoded" "LDeltaWindows$Caches;", Cond.fieldLink RX7 52 "DeltaWindows" "decodedWindows" "I", Cond.methodLink RX7 11 yX6_init, Cond.instanceMethod yX6_init, Cond.code yX6_init cX6_init 2 none, Cond.methodLink RX6 3 objectInit, Cond.arrayClass .int, Cond.fieldLink RX6 9 "DeltaWindows$Row" "bytes" "[I", Cond.fieldLink RX6 15 "DeltaWindows$Row" "count" "I", Cond.methodLink RX7 29 yX3_init, Cond.instanceMethod yX3_init, Cond.code yX3_init cX3_init 4 none, Cond.methodLink RX3 3 objectInit, Cond.fieldLink RX3 9 "DeltaWindows$Encoder" "source" "LDeltaWindows$Row;", Cond.fieldLink RX3 15 "DeltaWindows$Encoder" "target" "LDeltaWindows$Row;", Cond.fieldLink RX3 18 "DeltaWindows$Encoder" "delta" "LDeltaWindows$Row;", Cond.classLink RX3 21 RX0, Cond.fieldLink RX3 24 "DeltaWindows$Encoder" "caches" "LDeltaWindows$Caches;"]
def wsL_law_r3 : List Cond := [Cond.classLink RX3 28 RX4, Cond.instantiable RX4 4, Cond.initialized RX4, Cond.fieldLink RX3 31 "DeltaWindows$Encoder" "found" "LDeltaWindows$Instructions;", Cond.classLink RX3 35 RX6, Cond.fieldLink RX3 40 "DeltaWindows$Encoder" "string" "LDeltaWindows$Row;", Cond.fieldLink RX3 43 "DeltaWindows$Encoder" "data" "LDeltaWindows$Row;", Cond.fieldLink RX3 46 "DeltaWindows$Encoder" "codes" "LDeltaWindows$Row;", Cond.fieldLink RX3 49 "DeltaWindows$Encoder" "addresses" "LDeltaWindows$Row;", Cond.fieldLink RX3 52 "DeltaWindows$Encoder" "body" "LDeltaWindows$Row;", Cond.fieldLink RX3 55 "DeltaWindows$Encoder" "copySize" "I", Cond.fieldLink RX3 59 "DeltaWindows$Encoder" "copyAddress" "I", Cond.methodLink RX3 23 yX0_init, Cond.instanceMethod yX0_init, Cond.code yX0_init cX0_init 1 none, Cond.methodLink RX0 3 objectInit, Cond.fieldLink RX0 9 "DeltaWindows$Caches" "near" "[I", Cond.fieldLink RX0 15 "DeltaWindows$Caches" "same" "[I", Cond.fieldLink RX0 18 "DeltaWindows$Caches" "copies" "I", Cond.methodLink RX3 30 yX4_init, Cond.instanceMethod yX4_init, Cond.code yX4_init cX4_init 1 none, Cond.methodLink RX4 3 objectInit, Cond.fieldLink RX4 9 "DeltaWindows$Instructions" "kinds" "[I"]
def wsL_law_r4 : List Cond := [Cond.fieldLink RX4 15 "DeltaWindows$Instructions" "sizes" "[I", Cond.fieldLink RX4 18 "DeltaWindows$Instructions" "modes" "[I", Cond.fieldLink RX4 21 "DeltaWindows$Instructions" "count" "I", Cond.methodLink RX3 37 yX6_init, Cond.methodLink RX7 38 yX2_init, Cond.instanceMethod yX2_init, Cond.code yX2_init cX2_init 3 none, Cond.methodLink RX2 3 objectInit, Cond.fieldLink RX2 9 "DeltaWindows$Decoder" "source" "LDeltaWindows$Row;", Cond.classLink RX2 15 RX6, Cond.fieldLink RX2 20 "DeltaWindows$Decoder" "made" "LDeltaWindows$Row;", Cond.classLink RX2 23 RX0, Cond.fieldLink RX2 26 "DeltaWindows$Decoder" "caches" "LDeltaWindows$Caches;", Cond.classLink RX2 30 RX5, Cond.instantiable RX5 3, Cond.initialized RX5, Cond.fieldLink RX2 35 "DeltaWindows$Decoder" "whole" "LDeltaWindows$Reader;", Cond.fieldLink RX2 39 "DeltaWindows$Decoder" "data" "LDeltaWindows$Reader;", Cond.fieldLink RX2 42 "DeltaWindows$Decoder" "codes" "LDeltaWindows$Reader;", Cond.fieldLink RX2 45 "DeltaWindows$Decoder" "addresses" "LDeltaWindows$Reader;", Cond.fieldLink RX2 48 "DeltaWindows$Decoder" "windowsRead" "I", Cond.fieldLink RX2 52 "DeltaWindows$Decoder" "segment" "LDeltaWindows$Row;", Cond.fieldLink RX2 55 "DeltaWindows$Decoder" "segmentPlace" "I", Cond.fieldLink RX2 58 "DeltaWindows$Decoder" "segmentSize" "I"]
def wsL_law_r5 : List Cond := [Cond.fieldLink RX2 61 "DeltaWindows$Decoder" "windowStart" "I", Cond.fieldLink RX2 64 "DeltaWindows$Decoder" "windowEnd" "I", Cond.methodLink RX2 17 yX6_init, Cond.methodLink RX2 25 yX0_init, Cond.methodLink RX2 32 yX5_init, Cond.instanceMethod yX5_init, Cond.code yX5_init cX5_init 2 none, Cond.methodLink RX5 3 objectInit, Cond.fieldLink RX5 9 "DeltaWindows$Reader" "row" "LDeltaWindows$Row;", Cond.fieldLink RX5 15 "DeltaWindows$Reader" "place" "I", Cond.fieldLink RX5 19 "DeltaWindows$Reader" "end" "I", Cond.methodLink RX7 47 yX0_init, Cond.methodLink RL 12 yX8_init, Cond.instanceMethod yX8_init, Cond.code yX8_init cX8_init 1 none, Cond.methodLink RX8 1 objectInit, Cond.fieldLink RX8 7 "DeltaWindowsModel" "cell" "[I", Cond.fieldLink RX8 13 "DeltaWindowsModel" "length" "[I", Cond.fieldLink RX8 16 "DeltaWindowsModel" "near" "[I", Cond.fieldLink RX8 19 "DeltaWindowsModel" "same" "[I", Cond.fieldLink RX8 22 "DeltaWindowsModel" "shown" "[I", Cond.fieldLink RX8 25 "DeltaWindowsModel" "kind" "[I", Cond.fieldLink RX8 28 "DeltaWindowsModel" "size" "[I", Cond.fieldLink RX8 31 "DeltaWindowsModel" "mode" "[I"]
def wsL_law_r6 : List Cond := [Cond.fieldLink RX8 34 "DeltaWindowsModel" "section" "[I", Cond.fieldLink RX8 37 "DeltaWindowsModel" "written" "[I", Cond.fieldLink RX8 40 "DeltaWindowsModel" "place" "[I", Cond.fieldLink RX8 43 "DeltaWindowsModel" "stop" "[I", Cond.methodLink RL 13 yX7_put, Cond.instanceMethod yX7_put, Cond.selects RX7 yX7_put yX7_put, Cond.code yX7_put cX7_put 6 (some .boolean), Cond.methodLink RX7 56 yX7_inputRow, Cond.instanceMethod yX7_inputRow, Cond.selects RX7 yX7_inputRow yX7_inputRow, Cond.code yX7_inputRow cX7_inputRow 2 (some (.object "DeltaWindows$Row")), Cond.methodLink RX7 104 yX7_anyRow, Cond.instanceMethod yX7_anyRow, Cond.selects RX7 yX7_anyRow yX7_anyRow, Cond.code yX7_anyRow cX7_anyRow 2 (some (.object "DeltaWindows$Row")), Cond.methodLink RX7 60 yX7_isByte, Cond.static yX7_isByte, Cond.code yX7_isByte cX7_isByte 1 (some .boolean), Cond.methodLink RX7 64 yX6_room, Cond.instanceMethod yX6_room, Cond.selects RX6 yX6_room yX6_room, Cond.code yX6_room cX6_room 1 (some .int), Cond.methodLink RX7 68 yX6_append]
def wsL_law_r7 : List Cond := [Cond.instanceMethod yX6_append, Cond.selects RX6 yX6_append yX6_append, Cond.code yX6_append cX6_append 2 none, Cond.methodLink RL 17 yX8_put, Cond.instanceMethod yX8_put, Cond.selects RX8 yX8_put yX8_put, Cond.code yX8_put cX8_put 5 (some .boolean), Cond.methodLink RX8 46 yX8_isByte, Cond.static yX8_isByte, Cond.code yX8_isByte cX8_isByte 1 (some .boolean), Cond.methodLink RX8 50 yX8_most, Cond.static yX8_most, Cond.code yX8_most cX8_most 1 (some .int), Cond.methodLink RX8 54 yX8_append, Cond.instanceMethod yX8_append, Cond.selects RX8 yX8_append yX8_append, Cond.code yX8_append cX8_append 3 none, Cond.methodLink RL 18 yX7_cut, Cond.instanceMethod yX7_cut, Cond.selects RX7 yX7_cut yX7_cut, Cond.code yX7_cut cX7_cut 4 (some .boolean), Cond.methodLink RX7 71 yX6_count, Cond.instanceMethod yX6_count, Cond.selects RX6 yX6_count yX6_count]
def wsL_law_r8 : List Cond := [Cond.code yX6_count cX6_count 1 (some .int), Cond.methodLink RX7 74 yX6_keep, Cond.instanceMethod yX6_keep, Cond.selects RX6 yX6_keep yX6_keep, Cond.code yX6_keep cX6_keep 2 none, Cond.methodLink RL 22 yX8_cut, Cond.instanceMethod yX8_cut, Cond.selects RX8 yX8_cut yX8_cut, Cond.code yX8_cut cX8_cut 3 (some .boolean), Cond.methodLink RL 23 yX7_set, Cond.instanceMethod yX7_set, Cond.selects RX7 yX7_set yX7_set, Cond.code yX7_set cX7_set 5 (some .boolean), Cond.methodLink RX7 77 yX6_replace, Cond.instanceMethod yX6_replace, Cond.selects RX6 yX6_replace yX6_replace, Cond.code yX6_replace cX6_replace 3 none, Cond.methodLink RL 26 yX8_set, Cond.instanceMethod yX8_set, Cond.selects RX8 yX8_set yX8_set, Cond.code yX8_set cX8_set 4 (some .boolean), Cond.methodLink RL 27 yX7_encode, Cond.instanceMethod yX7_encode, Cond.selects RX7 yX7_encode yX7_encode]
def wsL_law_r9 : List Cond := [Cond.code yX7_encode cX7_encode 2 (some .int), Cond.methodLink RX7 81 yX3_writeDelta, Cond.instanceMethod yX3_writeDelta, Cond.selects RX3 yX3_writeDelta yX3_writeDelta, Cond.code yX3_writeDelta cX3_writeDelta 6 none, Cond.methodLink RX3 79 Lib.Math.min.name, Cond.static Lib.Math.min.name, Cond.initialized "java/lang/Math", Cond.code Lib.Math.min.name Lib.Math.min.code 2 (some .int), Cond.methodLink RX3 98 Lib.Math.max.name, Cond.static Lib.Math.max.name, Cond.code Lib.Math.max.name Lib.Math.max.code 2 (some .int), Cond.methodLink RX3 62 yX6_keep, Cond.methodLink RX3 69 yX6_append, Cond.methodLink RX3 72 yX0_clear, Cond.instanceMethod yX0_clear, Cond.selects RX0 yX0_clear yX0_clear, Cond.code yX0_clear cX0_clear 1 none, Cond.methodLink RX0 22 yJ7_fill_53178, Cond.static yJ7_fill_53178, Cond.initialized RJ7, Cond.code yJ7_fill_53178 cJ7_fill_53178 4 none, Cond.methodLink RX3 75 yX6_count, Cond.methodLink RX3 85 yX3_takePiece]
def wsL_law_r10 : List Cond := [Cond.instanceMethod yX3_takePiece, Cond.selects RX3 yX3_takePiece yX3_takePiece, Cond.code yX3_takePiece cX3_takePiece 4 none, Cond.methodLink RX3 101 yX6_become, Cond.instanceMethod yX6_become, Cond.selects RX6 yX6_become yX6_become, Cond.code yX6_become cX6_become 2 none, Cond.methodLink RX6 23 yX6_appendRow, Cond.instanceMethod yX6_appendRow, Cond.selects RX6 yX6_appendRow yX6_appendRow, Cond.code yX6_appendRow cX6_appendRow 3 none, Cond.methodLink RX6 19 yX6_append, Cond.methodLink RX3 105 yX6_at, Cond.instanceMethod yX6_at, Cond.selects RX6 yX6_at yX6_at, Cond.code yX6_at cX6_at 2 (some .int), Cond.methodLink RX3 109 yX4_clear, Cond.instanceMethod yX4_clear, Cond.selects RX4 yX4_clear yX4_clear, Cond.code yX4_clear cX4_clear 1 none, Cond.methodLink RX3 89 yX3_findInstructions, Cond.instanceMethod yX3_findInstructions, Cond.selects RX3 yX3_findInstructions yX3_findInstructions, Cond.code yX3_findInstructions cX3_findInstructions 3 none]
def wsL_law_r11 : List Cond := [Cond.methodLink RX3 110 yX3_findInstruction, Cond.instanceMethod yX3_findInstruction, Cond.selects RX3 yX3_findInstruction yX3_findInstruction, Cond.code yX3_findInstruction cX3_findInstruction 3 (some .int), Cond.methodLink RX3 113 yX3_sameBytes, Cond.instanceMethod yX3_sameBytes, Cond.selects RX3 yX3_sameBytes yX3_sameBytes, Cond.code yX3_sameBytes cX3_sameBytes 3 (some .int), Cond.methodLink RX3 116 yX3_findCopy, Cond.instanceMethod yX3_findCopy, Cond.selects RX3 yX3_findCopy yX3_findCopy, Cond.code yX3_findCopy cX3_findCopy 4 none, Cond.methodLink RX3 119 yX4_append, Cond.instanceMethod yX4_append, Cond.selects RX4 yX4_append yX4_append, Cond.code yX4_append cX4_append 4 none, Cond.methodLink RX3 122 yX3_writeAddress, Cond.instanceMethod yX3_writeAddress, Cond.selects RX3 yX3_writeAddress yX3_writeAddress, Cond.code yX3_writeAddress cX3_writeAddress 5 (some .int), Cond.methodLink RX3 128 yJ9_floorMod_7cf53, Cond.static yJ9_floorMod_7cf53, Cond.initialized RJ9, Cond.code yJ9_floorMod_7cf53 cJ9_floorMod_7cf53 3 (some .int)]
def wsL_law_r12 : List Cond := [Cond.methodLink RX3 131 yX0_same, Cond.instanceMethod yX0_same, Cond.selects RX0 yX0_same yX0_same, Cond.code yX0_same cX0_same 2 (some .int), Cond.methodLink RX3 134 yX0_leastMode, Cond.instanceMethod yX0_leastMode, Cond.selects RX0 yX0_leastMode yX0_leastMode, Cond.code yX0_leastMode cX0_leastMode 6 (some .int), Cond.methodLink RX0 34 yX0_integerFor, Cond.instanceMethod yX0_integerFor, Cond.selects RX0 yX0_integerFor yX0_integerFor, Cond.code yX0_integerFor cX0_integerFor 4 (some .int), Cond.methodLink RX3 137 yX0_integerFor, Cond.methodLink RX3 141 yX6_appendInteger, Cond.instanceMethod yX6_appendInteger, Cond.selects RX6 yX6_appendInteger yX6_appendInteger, Cond.code yX6_appendInteger cX6_appendInteger 4 none, Cond.methodLink RX3 144 yX0_learn, Cond.instanceMethod yX0_learn, Cond.selects RX0 yX0_learn yX0_learn, Cond.code yX0_learn cX0_learn 2 none, Cond.methodLink RX0 28 yJ9_floorMod_7cf53, Cond.methodLink RX3 125 yX4_appendAddedByte, Cond.instanceMethod yX4_appendAddedByte]
def wsL_law_r13 : List Cond := [Cond.selects RX4 yX4_appendAddedByte yX4_appendAddedByte, Cond.code yX4_appendAddedByte cX4_appendAddedByte 2 none, Cond.methodLink RX4 25 yX4_append, Cond.methodLink RX3 92 yX3_chooseCodes, Cond.instanceMethod yX3_chooseCodes, Cond.selects RX3 yX3_chooseCodes yX3_chooseCodes, Cond.code yX3_chooseCodes cX3_chooseCodes 4 none, Cond.methodLink RX3 147 yX4_count, Cond.instanceMethod yX4_count, Cond.selects RX4 yX4_count yX4_count, Cond.code yX4_count cX4_count 1 (some .int), Cond.methodLink RX3 148 yX4_pairCode, Cond.instanceMethod yX4_pairCode, Cond.selects RX4 yX4_pairCode yX4_pairCode, Cond.code yX4_pairCode cX4_pairCode 3 (some .int), Cond.methodLink RX4 35 yX1_addThenCopy, Cond.static yX1_addThenCopy, Cond.initialized RX1, Cond.code yX1_addThenCopy cX1_addThenCopy 4 (some .int), Cond.methodLink RX4 38 yX1_copyThenAdd, Cond.static yX1_copyThenAdd, Cond.code yX1_copyThenAdd cX1_copyThenAdd 3 (some .int), Cond.methodLink RX3 151 yX4_singleCode, Cond.instanceMethod yX4_singleCode]
def wsL_law_r14 : List Cond := [Cond.selects RX4 yX4_singleCode yX4_singleCode, Cond.code yX4_singleCode cX4_singleCode 2 (some .int), Cond.methodLink RX4 29 yX1_single, Cond.static yX1_single, Cond.code yX1_single cX1_single 5 (some .int), Cond.methodLink RX3 154 yX1_partOf, Cond.static yX1_partOf, Cond.code yX1_partOf cX1_partOf 5 (some .int), Cond.methodLink RX1 11 yX1_partOfSingle, Cond.static yX1_partOfSingle, Cond.code yX1_partOfSingle cX1_partOfSingle 5 (some .int), Cond.methodLink RX1 15 yX1_partOfAddCopy, Cond.static yX1_partOfAddCopy, Cond.code yX1_partOfAddCopy cX1_partOfAddCopy 4 (some .int), Cond.methodLink RX1 19 yX1_partOfCopyAdd, Cond.static yX1_partOfCopyAdd, Cond.code yX1_partOfCopyAdd cX1_partOfCopyAdd 2 (some .int), Cond.methodLink RX3 159 yX4_sizeOf, Cond.instanceMethod yX4_sizeOf, Cond.selects RX4 yX4_sizeOf yX4_sizeOf, Cond.code yX4_sizeOf cX4_sizeOf 2 (some .int), Cond.methodLink RX3 95 yX3_writeWindow, Cond.instanceMethod yX3_writeWindow, Cond.selects RX3 yX3_writeWindow yX3_writeWindow]
def wsL_law_r15 : List Cond := [Cond.code yX3_writeWindow cX3_writeWindow 1 none, Cond.methodLink RX3 162 yX6_appendRow, Cond.methodLink RL 31 yX8_encode, Cond.instanceMethod yX8_encode, Cond.selects RX8 yX8_encode yX8_encode, Cond.code yX8_encode cX8_encode 3 (some .int), Cond.methodLink RX8 113 yX8_forget, Cond.instanceMethod yX8_forget, Cond.selects RX8 yX8_forget yX8_forget, Cond.code yX8_forget cX8_forget 2 none, Cond.fieldLink RX8 62 "DeltaWindowsModel" "turn" "I", Cond.methodLink RX8 125 yX8_head, Cond.static yX8_head, Cond.code yX8_head cX8_head 1 (some .int), Cond.methodLink RX8 128 yX8_window, Cond.instanceMethod yX8_window, Cond.selects RX8 yX8_window yX8_window, Cond.code yX8_window cX8_window 6 none, Cond.fieldLink RX8 79 "DeltaWindowsModel" "many" "I", Cond.methodLink RX8 116 yX8_findInstructions, Cond.instanceMethod yX8_findInstructions, Cond.selects RX8 yX8_findInstructions yX8_findInstructions, Cond.code yX8_findInstructions cX8_findInstructions 9 none, Cond.methodLink RX8 96 yX8_reach]
def wsL_law_r16 : List Cond := [Cond.instanceMethod yX8_reach, Cond.selects RX8 yX8_reach yX8_reach, Cond.code yX8_reach cX8_reach 6 (some .int), Cond.methodLink RX8 76 yX8_stringAt, Cond.instanceMethod yX8_stringAt, Cond.selects RX8 yX8_stringAt yX8_stringAt, Cond.code yX8_stringAt cX8_stringAt 3 (some .int), Cond.methodLink RX8 100 yX8_runFrom, Cond.instanceMethod yX8_runFrom, Cond.selects RX8 yX8_runFrom yX8_runFrom, Cond.code yX8_runFrom cX8_runFrom 4 (some .int), Cond.methodLink RX8 82 yX8_instruct, Cond.instanceMethod yX8_instruct, Cond.selects RX8 yX8_instruct yX8_instruct, Cond.code yX8_instruct cX8_instruct 4 none, Cond.methodLink RX8 73 yX8_write, Cond.instanceMethod yX8_write, Cond.selects RX8 yX8_write yX8_write, Cond.code yX8_write cX8_write 3 none, Cond.methodLink RX8 103 yX8_copy, Cond.instanceMethod yX8_copy, Cond.selects RX8 yX8_copy yX8_copy, Cond.code yX8_copy cX8_copy 6 none, Cond.methodLink RX8 86 yX8_distance]
def wsL_law_r17 : List Cond := [Cond.instanceMethod yX8_distance, Cond.selects RX8 yX8_distance yX8_distance, Cond.code yX8_distance cX8_distance 4 (some .int), Cond.methodLink RX8 89 yX8_writeInteger, Cond.instanceMethod yX8_writeInteger, Cond.selects RX8 yX8_writeInteger yX8_writeInteger, Cond.code yX8_writeInteger cX8_writeInteger 5 none, Cond.methodLink RX8 66 yX8_bytesOf, Cond.static yX8_bytesOf, Cond.code yX8_bytesOf cX8_bytesOf 3 (some .int), Cond.methodLink RX8 69 yX8_byteOf, Cond.static yX8_byteOf, Cond.code yX8_byteOf cX8_byteOf 3 (some .int), Cond.methodLink RX8 92 yX8_note, Cond.instanceMethod yX8_note, Cond.selects RX8 yX8_note yX8_note, Cond.code yX8_note cX8_note 2 none, Cond.methodLink RX8 106 yX8_addByte, Cond.instanceMethod yX8_addByte, Cond.selects RX8 yX8_addByte yX8_addByte, Cond.code yX8_addByte cX8_addByte 2 none, Cond.methodLink RX8 119 yX8_writeCodes, Cond.instanceMethod yX8_writeCodes, Cond.selects RX8 yX8_writeCodes yX8_writeCodes]
def wsL_law_r18 : List Cond := [Cond.code yX8_writeCodes cX8_writeCodes 4 none, Cond.methodLink RX8 109 yX8_find, Cond.static yX8_find, Cond.code yX8_find cX8_find 9 (some .int), Cond.methodLink RX8 58 yX8_part, Cond.static yX8_part, Cond.code yX8_part cX8_part 5 (some .int), Cond.methodLink RX8 122 yX8_appendInteger, Cond.instanceMethod yX8_appendInteger, Cond.selects RX8 yX8_appendInteger yX8_appendInteger, Cond.code yX8_appendInteger cX8_appendInteger 4 none, Cond.methodLink RX8 131 yX8_show, Cond.instanceMethod yX8_show, Cond.selects RX8 yX8_show yX8_show, Cond.code yX8_show cX8_show 3 none, Cond.methodLink RL 32 yX7_decode, Cond.instanceMethod yX7_decode, Cond.selects RX7 yX7_decode yX7_decode, Cond.code yX7_decode cX7_decode 3 (some .int), Cond.methodLink RX7 84 yX2_readDelta, Cond.instanceMethod yX2_readDelta, Cond.selects RX2 yX2_readDelta yX2_readDelta, Cond.code yX2_readDelta cX2_readDelta 4 (some .int), Cond.methodLink RX2 67 yX6_keep]
def wsL_law_r19 : List Cond := [Cond.methodLink RX2 70 yX0_clear, Cond.methodLink RX2 73 yX5_open, Cond.instanceMethod yX5_open, Cond.selects RX5 yX5_open yX5_open, Cond.code yX5_open cX5_open 3 none, Cond.methodLink RX5 27 Lib.Math.min.name, Cond.methodLink RX5 33 Lib.Math.max.name, Cond.methodLink RX2 77 yX2_readHead, Cond.instanceMethod yX2_readHead, Cond.selects RX2 yX2_readHead yX2_readHead, Cond.code yX2_readHead cX2_readHead 5 (some .boolean), Cond.methodLink RX2 99 yX5_nextByte, Cond.instanceMethod yX5_nextByte, Cond.selects RX5 yX5_nextByte yX5_nextByte, Cond.code yX5_nextByte cX5_nextByte 2 (some .int), Cond.methodLink RX2 81 yX5_left, Cond.instanceMethod yX5_left, Cond.selects RX5 yX5_left yX5_left, Cond.code yX5_left cX5_left 1 (some .int), Cond.methodLink RX2 85 yX2_readWindowHead, Cond.instanceMethod yX2_readWindowHead, Cond.selects RX2 yX2_readWindowHead yX2_readWindowHead, Cond.code yX2_readWindowHead cX2_readWindowHead 5 (some .int), Cond.methodLink RX2 102 yX2_readSegment]
def wsL_law_r20 : List Cond := [Cond.instanceMethod yX2_readSegment, Cond.selects RX2 yX2_readSegment yX2_readSegment, Cond.code yX2_readSegment cX2_readSegment 4 (some .boolean), Cond.methodLink RX2 105 yX5_nextInteger, Cond.instanceMethod yX5_nextInteger, Cond.selects RX5 yX5_nextInteger yX5_nextInteger, Cond.code yX5_nextInteger cX5_nextInteger 5 (some .int), Cond.constantLong RX5 44 (128), Cond.constantLong RX5 46 (2147483647), Cond.methodLink RX5 40 yX5_nextByte, Cond.methodLink RX2 92 yX6_count, Cond.methodLink RX2 108 yX5_place, Cond.instanceMethod yX5_place, Cond.selects RX5 yX5_place yX5_place, Cond.code yX5_place cX5_place 1 (some .int), Cond.methodLink RX2 111 yX2_readParts, Cond.instanceMethod yX2_readParts, Cond.selects RX2 yX2_readParts yX2_readParts, Cond.code yX2_readParts cX2_readParts 9 (some .boolean), Cond.methodLink RX2 89 yX2_makeWindow, Cond.instanceMethod yX2_makeWindow, Cond.selects RX2 yX2_makeWindow yX2_makeWindow, Cond.code yX2_makeWindow cX2_makeWindow 3 (some .boolean), Cond.methodLink RX2 115 yX2_follow]
def wsL_law_r21 : List Cond := [Cond.instanceMethod yX2_follow, Cond.selects RX2 yX2_follow yX2_follow, Cond.code yX2_follow cX2_follow 4 (some .boolean), Cond.methodLink RX2 118 yX1_partOf, Cond.methodLink RX2 124 yX2_add, Cond.instanceMethod yX2_add, Cond.selects RX2 yX2_add yX2_add, Cond.code yX2_add cX2_add 3 (some .boolean), Cond.methodLink RX2 139 yX6_append, Cond.methodLink RX2 128 yX2_run, Cond.instanceMethod yX2_run, Cond.selects RX2 yX2_run yX2_run, Cond.code yX2_run cX2_run 4 (some .boolean), Cond.methodLink RX2 131 yX2_readAddress, Cond.instanceMethod yX2_readAddress, Cond.selects RX2 yX2_readAddress yX2_readAddress, Cond.code yX2_readAddress cX2_readAddress 3 (some .long), Cond.constantLong RX2 154 (-1), Cond.methodLink RX2 156 yX0_same, Cond.methodLink RX2 142 yX2_here, Cond.instanceMethod yX2_here, Cond.selects RX2 yX2_here yX2_here, Cond.code yX2_here cX2_here 1 (some .int), Cond.methodLink RX2 159 yX0_addressFor]
def wsL_law_r22 : List Cond := [Cond.instanceMethod yX0_addressFor, Cond.selects RX0 yX0_addressFor yX0_addressFor, Cond.code yX0_addressFor cX0_addressFor 4 (some .long), Cond.methodLink RX2 135 yX2_copy, Cond.instanceMethod yX2_copy, Cond.selects RX2 yX2_copy yX2_copy, Cond.code yX2_copy cX2_copy 5 (some .boolean), Cond.methodLink RX2 145 yX2_stringAt, Cond.instanceMethod yX2_stringAt, Cond.selects RX2 yX2_stringAt yX2_stringAt, Cond.code yX2_stringAt cX2_stringAt 2 (some .int), Cond.methodLink RX2 151 yX6_at, Cond.methodLink RX2 148 yX0_learn, Cond.methodLink RX7 91 yX6_become, Cond.methodLink RX7 98 yX0_become, Cond.instanceMethod yX0_become, Cond.selects RX0 yX0_become yX0_become, Cond.code yX0_become cX0_become 2 none, Cond.methodLink RX0 38 arraycopyName, Cond.native arraycopyName, Cond.static arraycopyName, Cond.initialized "java/lang/System", Cond.methodLink RL 35 yX8_decode, Cond.instanceMethod yX8_decode]
def wsL_law_r23 : List Cond := [Cond.selects RX8 yX8_decode yX8_decode, Cond.code yX8_decode cX8_decode 5 (some .int), Cond.fieldLink RX8 134 "DeltaWindowsModel" "bad" "Z", Cond.fieldLink RX8 188 "DeltaWindowsModel" "windows" "I", Cond.methodLink RX8 138 yX8_next, Cond.instanceMethod yX8_next, Cond.selects RX8 yX8_next yX8_next, Cond.code yX8_next cX8_next 2 (some .int), Cond.methodLink RX8 185 yX8_readWindow, Cond.instanceMethod yX8_readWindow, Cond.selects RX8 yX8_readWindow yX8_readWindow, Cond.code yX8_readWindow cX8_readWindow 15 (some .int), Cond.fieldLink RX8 167 "DeltaWindowsModel" "due" "I", Cond.fieldLink RX8 145 "DeltaWindowsModel" "base" "I", Cond.methodLink RX8 179 yX8_readSegment, Cond.instanceMethod yX8_readSegment, Cond.selects RX8 yX8_readSegment yX8_readSegment, Cond.code yX8_readSegment cX8_readSegment 3 none, Cond.fieldLink RX8 155 "DeltaWindowsModel" "segment" "I", Cond.fieldLink RX8 148 "DeltaWindowsModel" "segmentLength" "I", Cond.fieldLink RX8 158 "DeltaWindowsModel" "segmentPlace" "I", Cond.methodLink RX8 161 yX8_nextInteger, Cond.instanceMethod yX8_nextInteger, Cond.selects RX8 yX8_nextInteger yX8_nextInteger]
def wsL_law_r24 : List Cond := [Cond.code yX8_nextInteger cX8_nextInteger 6 (some .int), Cond.constantLong RX8 141 (128), Cond.constantLong RX8 143 (2147483647), Cond.methodLink RX8 182 yX8_performAll, Cond.instanceMethod yX8_performAll, Cond.selects RX8 yX8_performAll yX8_performAll, Cond.code yX8_performAll cX8_performAll 5 none, Cond.methodLink RX8 176 yX8_perform, Cond.instanceMethod yX8_perform, Cond.selects RX8 yX8_perform yX8_perform, Cond.code yX8_perform cX8_perform 6 none, Cond.methodLink RX8 151 yX8_made, Cond.instanceMethod yX8_made, Cond.selects RX8 yX8_made yX8_made, Cond.code yX8_made cX8_made 1 (some .int), Cond.methodLink RX8 170 yX8_address, Cond.instanceMethod yX8_address, Cond.selects RX8 yX8_address yX8_address, Cond.code yX8_address cX8_address 6 (some .int), Cond.methodLink RX8 164 yX8_here, Cond.instanceMethod yX8_here, Cond.selects RX8 yX8_here yX8_here, Cond.code yX8_here cX8_here 1 (some .int), Cond.methodLink RX8 173 yX8_readString]
def wsL_law_r25 : List Cond := [Cond.instanceMethod yX8_readString, Cond.selects RX8 yX8_readString yX8_readString, Cond.code yX8_readString cX8_readString 2 (some .int), Cond.methodLink RL 36 yX7_length, Cond.instanceMethod yX7_length, Cond.selects RX7 yX7_length yX7_length, Cond.code yX7_length cX7_length 3 (some .int), Cond.methodLink RL 39 yX8_length, Cond.instanceMethod yX8_length, Cond.selects RX8 yX8_length yX8_length, Cond.code yX8_length cX8_length 2 (some .int), Cond.methodLink RL 40 yX7_byteAt, Cond.instanceMethod yX7_byteAt, Cond.selects RX7 yX7_byteAt yX7_byteAt, Cond.code yX7_byteAt cX7_byteAt 4 (some .int), Cond.methodLink RX7 107 yX6_at, Cond.methodLink RL 44 yX8_byteAt, Cond.instanceMethod yX8_byteAt, Cond.selects RX8 yX8_byteAt yX8_byteAt, Cond.code yX8_byteAt cX8_byteAt 3 (some .int), Cond.methodLink RL 45 yX7_code, Cond.instanceMethod yX7_code, Cond.selects RX7 yX7_code yX7_code, Cond.code yX7_code cX7_code 3 (some .int)]
def wsL_law_r26 : List Cond := [Cond.methodLink RX7 110 yX1_partOf, Cond.methodLink RL 48 yX8_code, Cond.instanceMethod yX8_code, Cond.selects RX8 yX8_code yX8_code, Cond.code yX8_code cX8_code 3 (some .int), Cond.methodLink RL 49 yX7_cache, Cond.instanceMethod yX7_cache, Cond.selects RX7 yX7_cache yX7_cache, Cond.code yX7_cache cX7_cache 4 (some .int), Cond.methodLink RX7 117 yX0_near, Cond.instanceMethod yX0_near, Cond.selects RX0 yX0_near yX0_near, Cond.code yX0_near cX0_near 2 (some .int), Cond.methodLink RX7 120 yX0_same, Cond.methodLink RL 52 yX8_cache, Cond.instanceMethod yX8_cache, Cond.selects RX8 yX8_cache yX8_cache, Cond.code yX8_cache cX8_cache 3 (some .int), Cond.methodLink RL 53 yX7_windows, Cond.instanceMethod yX7_windows, Cond.selects RX7 yX7_windows yX7_windows, Cond.code yX7_windows cX7_windows 1 (some .int), Cond.methodLink RL 57 yX8_windows, Cond.instanceMethod yX8_windows]
def wsL_law_r27 : List Cond := [Cond.selects RX8 yX8_windows yX8_windows, Cond.code yX8_windows cX8_windows 1 (some .int), Cond.methodLink RL 58 yX7_agrees, Cond.instanceMethod yX7_agrees, Cond.selects RX7 yX7_agrees yX7_agrees, Cond.code yX7_agrees cX7_agrees 2 (some .boolean), Cond.methodLink RL 62 yX8_agrees, Cond.instanceMethod yX8_agrees, Cond.selects RX8 yX8_agrees yX8_agrees, Cond.code yX8_agrees cX8_agrees 3 (some .boolean)]
def wsL_law : List Cond := (wsL_law_r1 ++ (wsL_law_r2 ++ (wsL_law_r3 ++ (wsL_law_r4 ++ (wsL_law_r5 ++ (wsL_law_r6 ++ (wsL_law_r7 ++ (wsL_law_r8 ++ (wsL_law_r9 ++ (wsL_law_r10 ++ (wsL_law_r11 ++ (wsL_law_r12 ++ (wsL_law_r13 ++ (wsL_law_r14 ++ (wsL_law_r15 ++ (wsL_law_r16 ++ (wsL_law_r17 ++ (wsL_law_r18 ++ (wsL_law_r19 ++ (wsL_law_r20 ++ (wsL_law_r21 ++ (wsL_law_r22 ++ (wsL_law_r23 ++ (wsL_law_r24 ++ (wsL_law_r25 ++ (wsL_law_r26 ++ wsL_law_r27)))))))))))))))))))))))))) ++ wsX70 ++ wsX80 ++ wsX60 ++ wsX30 ++ wsX20 ++ wsX00 ++ wsX40 ++ wsX50 ++ ([] : List Cond)
end
section
abbrev vwCl : List vw_C := [(RX0, TX0, 3), (RX2, TX2, 13), (RX3, TX3, 12), (RX4, TX4, 4), (RX5, TX5, 3), (RX6, TX6, 2), (RX7, TX7, 8), (RX8, TX8, 21)]
/-! THE BASE: contracts over a fixed world, calls that put the callee's cells back in their places -/
/-- the cells xs at the places is of ws -/
def sA : va_W → List Nat → va_W → va_W
  | ws, i :: is, x :: xs => sA (ws.set i x) is xs
  | ws, _, _ => ws
theorem sA_len : ∀ (is : List Nat) (ws xs : va_W), (sA ws is xs).length = ws.length
  | [], ws, xs => by simp [sA]
  | i :: is, ws, [] => by simp [sA]
  | i :: is, ws, x :: xs => by rw [sA, sA_len is]; simp
theorem sA_out : ∀ (is : List Nat) (ws xs : va_W) (k : Nat), k ∉ is → (sA ws is xs)[k]? = ws[k]?
  | [], ws, xs, k, _ => by simp [sA]
  | i :: is, ws, [], k, _ => by simp [sA]
  | i :: is, ws, x :: xs, k, h => by
    have h1 : k ≠ i := fun q => h (by rw [q]; exact List.mem_cons_self)
    have h2 : k ∉ is := fun q => h (List.mem_cons_of_mem _ q)
    rw [sA, sA_out is _ xs k h2, List.getElem?_set_ne (Ne.symm h1)]
theorem sA_in : ∀ (is : List Nat) (ws xs : va_W) (j k : Nat), va_nd is = true → is.length = xs.length → is[j]? = some k → k < ws.length → (sA ws is xs)[k]? = xs[j]?
  | [], ws, xs, j, k, _, _, hj, _ => by simp at hj
  | i :: is, ws, [], j, k, _, hl, _, _ => by simp at hl
  | i :: is, ws, x :: xs, j, k, hn, hl, hj, hk => by
    have hinj := va_nd_inj _ hn
    cases j with
    | zero =>
      have hk0 : i = k := by simpa using hj
      subst hk0
      have hni : i ∉ is := fun q => by
        obtain ⟨j', hj'⟩ := List.mem_iff_getElem?.mp q
        have := hinj 0 (j' + 1) i (by simp) (by simpa using hj')
        omega
      rw [sA, sA_out is _ xs i hni]
      simp [hk]
    | succ j =>
      have hn' : va_nd is = true := by
        simp only [va_nd, Bool.and_eq_true] at hn
        exact hn.2
      rw [sA, sA_in is _ xs j k hn' (by simpa using hl) (by simpa using hj) (by simpa using hk)]
      simp
theorem k_fm {α β : Type} {f : α → Option β} : ∀ {is : List α} {ws : List β}, is.map f = ws.map some → is.filterMap f = ws
  | [], [], _ => rfl
  | [], x :: xs, h => by simp at h
  | i :: is, [], h => by simp at h
  | i :: is, x :: xs, h => by
    simp only [List.map_cons, List.cons.injEq] at h
    rw [List.filterMap_cons, h.1]
    simp only [k_fm h.2]
theorem k_set {D : va_G} {cl : List vw_C} {A : Nat → Prop} {ws wc wc' : va_W} {H H1 : Heap} (hP : va_P D cl ws H) (hD : va_D A ws) (is : List Nat) (hC : is.map (fun i => ws[i]?) = wc.map some) (hn : va_nd is = true) (had : wc'.map Prod.fst = wc.map Prod.fst)
    (hk : ∀ q : Nat, q < H.size → ¬ va_A wc H.size q → H1[q]? = H[q]?) (hP1 : va_P D cl wc' H1) : va_P D cl (sA ws is wc') H1 ∧ va_D A (sA ws is wc') := by
  have hlen : is.length = wc.length := by have := congrArg List.length hC; simpa using this
  have hlen' : wc'.length = wc.length := by have := congrArg List.length had; simpa using this
  have hat : ∀ (j k : Nat), is[j]? = some k → ws[k]? = wc[j]? := fun j k hj => by
    have h1 := congrArg (fun l : List (Option (Nat × va_E)) => l[j]?) hC
    simp only [List.getElem?_map, hj, Option.map_some] at h1
    cases hw : wc[j]? with
    | none => rw [hw] at h1; simp at h1
    | some x => rw [hw] at h1; simpa using h1
  have hfst : ∀ (j : Nat) (x : Nat × va_E), wc'[j]? = some x → ∃ x0 : Nat × va_E, wc[j]? = some x0 ∧ x0.1 = x.1 := fun j x hx => by
    have h1 := congrArg (fun l : List Nat => l[j]?) had
    simp only [List.getElem?_map, hx, Option.map_some] at h1
    cases hw : wc[j]? with
    | none => rw [hw] at h1; simp at h1
    | some y => rw [hw] at h1; exact ⟨y, rfl, by simpa using h1.symm⟩
  have key : ∀ (k : Nat) (q : Nat × va_E), (sA ws is wc')[k]? = some q → (∃ j : Nat, is[j]? = some k ∧ wc'[j]? = some q) ∨ (k ∉ is ∧ ws[k]? = some q) := fun k q hq => by
    by_cases hm : k ∈ is
    · obtain ⟨j, hj⟩ := List.mem_iff_getElem?.mp hm
      have hkl : k < ws.length := by
        have h2 : k < (sA ws is wc').length := (List.getElem?_eq_some_iff.mp hq).1
        rwa [sA_len] at h2
      rw [sA_in is ws wc' j k hn (by omega) hj hkl] at hq
      exact Or.inl ⟨j, hj, hq⟩
    · rw [sA_out is ws wc' k hm] at hq
      exact Or.inr ⟨hm, hq⟩
  have addr : ∀ (k : Nat) (q : Nat × va_E), (sA ws is wc')[k]? = some q → ∃ q0 : Nat × va_E, ws[k]? = some q0 ∧ q0.1 = q.1 := fun k q hq => by
    rcases key k q hq with ⟨j, hj, hx⟩ | ⟨-, h⟩
    · obtain ⟨x0, h1, h2⟩ := hfst j q hx
      exact ⟨x0, by rw [hat j k hj]; exact h1, h2⟩
    · exact ⟨q, h, rfl⟩
  refine ⟨fun k q hq => ?_, ⟨fun i j x y hx hy hxy => ?_, fun k q hq => ?_⟩⟩
  · rcases key k q hq with ⟨j, hj, hx⟩ | ⟨hm, h⟩
    · exact hP1 j q hx
    · have hat0 := hP k q h
      refine hat0.kept (hk q.1 hat0.lt (fun hA => ?_))
      rcases hA with ⟨k', e', hk'⟩ | hge
      · have hk2 : k' < is.length := by rw [hlen]; exact (List.getElem?_eq_some_iff.mp hk').1
        have hj : is[k']? = some is[k'] := List.getElem?_eq_getElem hk2
        have h3 := hat k' _ hj
        rw [hk'] at h3
        have := hD.1 k is[k'] q (q.1, e') h h3 rfl
        exact hm (by rw [this]; exact List.getElem_mem hk2)
      · exact absurd hat0.lt (by omega)
  · obtain ⟨x0, h1, h2⟩ := addr i x hx
    obtain ⟨y0, h3, h4⟩ := addr j y hy
    exact hD.1 i j x0 y0 h1 h3 (by rw [h2, h4]; exact hxy)
  · obtain ⟨q0, h1, h2⟩ := addr k q hq
    rw [← h2]; exact hD.2 k q0 h1
/-- a contract's start: the world ws, the array classes tys, N of the state -/
def kP (D : va_G) (ws : va_W) (tys : List (ClassId × FieldType)) (N : State → Prop) (sz : Nat) (U : State) : Prop := U.heap.size = sz ∧ va_P D vwCl ws U.heap ∧ va_K D vwCl tys U ∧ va_D (fun _ => True) ws ∧ N U
def kBd (D : va_G) (ws' : va_W) (_ : Unit) (t : State) : Prop := va_P D vwCl ws' t.heap
/-- contracts: the method answers r (an int, a long, nothing, a reference or null) and the world becomes ws' -/
def MI (l : Launch) (y : MethodName) (wd : List Cond) (rm : Room) (D : va_G) (av : List Value) (ws : va_W) (tys : List (ClassId × FieldType)) (N : State → Prop) (r : Int32) (ws' : va_W) : Prop := ∀ sz, Met l y wd rm (va_Pc av (kP D ws tys N sz)) (va_Qi (fun r' (_ : Unit) => r' = r) (kBd D ws') (va_A ws sz)) 0 0 (va_A ws sz)
def ML (l : Launch) (y : MethodName) (wd : List Cond) (rm : Room) (D : va_G) (av : List Value) (ws : va_W) (tys : List (ClassId × FieldType)) (N : State → Prop) (r : Int64) (ws' : va_W) : Prop := ∀ sz, Met l y wd rm (va_Pc av (kP D ws tys N sz)) (va_Ql (fun r' (_ : Unit) => r' = r) (kBd D ws') (va_A ws sz)) 0 0 (va_A ws sz)
def MV (l : Launch) (y : MethodName) (wd : List Cond) (rm : Room) (D : va_G) (av : List Value) (ws : va_W) (tys : List (ClassId × FieldType)) (N : State → Prop) (ws' : va_W) : Prop := ∀ sz, Met l y wd rm (va_Pc av (kP D ws tys N sz)) (va_Qv (fun (_ : Unit) => True) (kBd D ws') (va_A ws sz)) 0 0 (va_A ws sz)
def MR (l : Launch) (y : MethodName) (wd : List Cond) (rm : Room) (D : va_G) (av : List Value) (ws : va_W) (tys : List (ClassId × FieldType)) (N : State → Prop) (r : Option Nat) (ws' : va_W) : Prop := ∀ sz, Met l y wd rm (va_Pc av (kP D ws tys N sz)) (va_Qq (fun r' (_ : Unit) => r' = r) (kBd D ws') (va_A ws sz)) 0 0 (va_A ws sz)
def NT (_ : State) : Prop := True
def NBl (N : State → Prop) : Prop := ∀ (a : Array Value) (U : State) (g : JFrame) (mk : MethodId), N U → N (U.calling g mk a)
theorem NT_bl : NBl NT := fun _ _ _ _ _ => trivial
theorem NT_u {s : State} {H : Heap} : ∀ U : State, U.heap = H → s.WarmedH U.vm → NT U := fun _ _ _ => trivial
theorem k_blind {av : List Value} {D : va_G} {ws : va_W} {tys : List (ClassId × FieldType)} {N : State → Prop} {sz : Nat} (hN : NBl N) : FrameBlind (va_Pc av (kP D ws tys N sz)) := by
  intro a U g mk q
  obtain ⟨q0, q1, qP, qK, qD, qN⟩ := q
  exact ⟨q0, q1, qP, va_K.moved (u := U) (U := U.calling g mk a) (Vm.Alike.refl U.vm) qK, qD, hN a U g mk qN⟩
/-- a callee's cells wc cut out of the world ws; behind the call they are wc', the world wf -/
def KC (D : va_G) (A : Nat → Prop) (wc wc' wf : va_W) (H : Heap) : Prop := (∀ q, va_A wc H.size q → A q) ∧ va_P D vwCl wc H ∧ va_D (fun _ => True) wc ∧ ∀ H1 : Heap, (∀ q : Nat, q < H.size → ¬ va_A wc H.size q → H1[q]? = H[q]?) → va_P D vwCl wc' H1 → va_P D vwCl wf H1 ∧ va_D A wf
theorem kcut {D : va_G} {A : Nat → Prop} {ws wc wc' wf : va_W} {H H0 : Heap} {locs : List Loc} (hP : va_P D vwCl ws H) (hD : va_D A ws) (hS : va_S A H0 H locs) (hA : ∀ q, H0.size ≤ q → A q) (is : List Nat) (hC : is.map (fun i => ws[i]?) = wc.map some) (hn : va_nd is = true) (had : wc'.map Prod.fst = wc.map Prod.fst) (hw : sA ws is wc' = wf) : KC D A wc wc' wf H := by
  subst hw
  exact ⟨va_free hD hS hA is hC, hP.sub is (k_fm hC), (hD.sub is hn hC).weaken (fun _ _ _ _ => trivial), fun H1 hk hP1 => k_set hP hD is hC hn had hk hP1⟩
theorem kall {D : va_G} {A : Nat → Prop} {ws wc' : va_W} {H H0 : Heap} {locs : List Loc} (hP : va_P D vwCl ws H) (hD : va_D A ws) (hS : va_S A H0 H locs) (hA : ∀ q, H0.size ≤ q → A q) (had : wc'.map Prod.fst = ws.map Prod.fst) : KC D A ws wc' wc' H := by
  refine ⟨fun q hq => ?_, hP, hD.weaken (fun _ _ _ _ => trivial), fun H1 _ hP1 => ⟨hP1, ?_⟩⟩
  · rcases hq with ⟨k, e, hk⟩ | hge
    · exact hD.2 k _ hk
    · exact hA q (Nat.le_trans hS.1 hge)
  · have hfst : ∀ (j : Nat) (x : Nat × va_E), wc'[j]? = some x → ∃ x0 : Nat × va_E, ws[j]? = some x0 ∧ x0.1 = x.1 := fun j x hx => by
      have h1 := congrArg (fun l : List Nat => l[j]?) had
      simp only [List.getElem?_map, hx, Option.map_some] at h1
      cases hw : ws[j]? with
      | none => rw [hw] at h1; simp at h1
      | some y => rw [hw] at h1; exact ⟨y, rfl, by simpa using h1.symm⟩
    refine ⟨fun i j x y hx hy hxy => ?_, fun k q hq => ?_⟩
    · obtain ⟨x0, h1, h2⟩ := hfst i x hx
      obtain ⟨y0, h3, h4⟩ := hfst j y hy
      exact hD.1 i j x0 y0 h1 h3 (by rw [h2, h4]; exact hxy)
    · obtain ⟨q0, h1, h2⟩ := hfst k q hq
      rw [← h2]; exact hD.2 k q0 h1
section KCS
variable {p : Program} {l : Launch} {e : Env} {R : Room} {s : State} {m : MethodId} {args : Array Value} {below : List Frame} {meth : Method} {c : Code} {H H0 : Heap} {locs : List Loc} {cells slots : Nat} {Q : State → Prop} {D : va_G} {A : Nat → Prop} {wc wc' wf : va_W} {tc : List (ClassId × FieldType)} {N : State → Prop} {As st0 rest : List Value} {ls : Array Slot} {pc : Nat} {a : Array Value}
theorem k_preS (hk : KC D A wc wc' wf H) (hK : va_K D vwCl tc s) (hNb : NBl N) (hNu : ∀ U : State, U.heap = H → s.WarmedH U.vm → N U) : PreS s H (va_Pc As (kP D wc tc N H.size)) As :=
  ⟨k_blind hNb, fun U hU hW => ⟨rfl, by rw [hU], by rw [hU]; exact hk.2.1, va_K.moved hW.alike hK, hk.2.2.1, hNu U hU hW⟩⟩
theorem k_preV {C : String} {b ci q0 : Nat} {q : vw_C} {fs : List Value} (hk : KC D A wc wc' wf H) (hK : va_K D vwCl tc s) (hNb : NBl N) (hNu : ∀ U : State, U.heap = H → s.WarmedH U.vm → N U)
    (hc : vwCl[ci]? = some q) (hq : q.1 = C) (he : wc[q0]? = some (b, .inr (ci, fs))) : PreV s H C b (va_Pc (.ref b :: As) (kP D wc tc N H.size)) As := by
  have h := k_preS (As := .ref b :: As) hk hK hNb hNu
  subst hq
  exact ⟨h.1, va_recv hK hk.2.1 hc he, h.2⟩
theorem k_goI {r : Int32} (hr : va_Run p l e R s m args below meth c H locs cells slots 0 0 (F0 m pc ls st0) rest (va_Qi (fun r' (_ : Unit) => r' = r) (kBd D wc') (va_A wc H.size) a) (va_A wc H.size)) (hk : KC D A wc wc' wf H) (hS : va_S A H0 H locs)
    (kk : ∀ (H1 : Heap) (locs1 : List Loc), va_P D vwCl wf H1 → va_D A wf → va_S A H0 H1 locs1 → W p l e R s m args below meth c H1 locs1 cells slots Q (F0 m (pc + 3) ls (.int r :: rest))) : W p l e R s m args below meth c H locs cells slots Q (F0 m pc ls st0) := by
  refine va_calli hr hS (fun q _ h => hk.1 q h) hk.1 (fun r' u t H1 locs1 ht hvm hw hB hz1 hk1 hS1 => ?_)
  subst hw
  have hB : va_P D vwCl wc' t.heap := hB
  rw [ht] at hB
  obtain ⟨h1, h2⟩ := hk.2.2.2 H1 hk1 hB
  exact kk H1 locs1 h1 h2 hS1
theorem k_goL {r : Int64} (hr : va_Run p l e R s m args below meth c H locs cells slots 0 0 (F0 m pc ls st0) rest (va_Ql (fun r' (_ : Unit) => r' = r) (kBd D wc') (va_A wc H.size) a) (va_A wc H.size)) (hk : KC D A wc wc' wf H) (hS : va_S A H0 H locs)
    (kk : ∀ (H1 : Heap) (locs1 : List Loc), va_P D vwCl wf H1 → va_D A wf → va_S A H0 H1 locs1 → W p l e R s m args below meth c H1 locs1 cells slots Q (F0 m (pc + 3) ls (.long r :: rest))) : W p l e R s m args below meth c H locs cells slots Q (F0 m pc ls st0) := by
  refine va_calll hr hS (fun q _ h => hk.1 q h) hk.1 (fun r' u t H1 locs1 ht hvm hw hB hz1 hk1 hS1 => ?_)
  subst hw
  have hB : va_P D vwCl wc' t.heap := hB
  rw [ht] at hB
  obtain ⟨h1, h2⟩ := hk.2.2.2 H1 hk1 hB
  exact kk H1 locs1 h1 h2 hS1
theorem k_goV (hr : va_Run p l e R s m args below meth c H locs cells slots 0 0 (F0 m pc ls st0) rest (va_Qv (fun (_ : Unit) => True) (kBd D wc') (va_A wc H.size) a) (va_A wc H.size)) (hk : KC D A wc wc' wf H) (hS : va_S A H0 H locs)
    (kk : ∀ (H1 : Heap) (locs1 : List Loc), va_P D vwCl wf H1 → va_D A wf → va_S A H0 H1 locs1 → W p l e R s m args below meth c H1 locs1 cells slots Q (F0 m (pc + 3) ls rest)) : W p l e R s m args below meth c H locs cells slots Q (F0 m pc ls st0) := by
  refine va_callv hr hS (fun q _ h => hk.1 q h) hk.1 (fun u t H1 locs1 ht hvm hw hB hz1 hk1 hS1 => ?_)
  have hB : va_P D vwCl wc' t.heap := hB
  rw [ht] at hB
  obtain ⟨h1, h2⟩ := hk.2.2.2 H1 hk1 hB
  exact kk H1 locs1 h1 h2 hS1
theorem k_goR {r : Option Nat} (hr : va_Run p l e R s m args below meth c H locs cells slots 0 0 (F0 m pc ls st0) rest (va_Qq (fun r' (_ : Unit) => r' = r) (kBd D wc') (va_A wc H.size) a) (va_A wc H.size)) (hk : KC D A wc wc' wf H) (hS : va_S A H0 H locs)
    (kk : ∀ (H1 : Heap) (locs1 : List Loc), va_P D vwCl wf H1 → va_D A wf → va_S A H0 H1 locs1 → W p l e R s m args below meth c H1 locs1 cells slots Q (F0 m (pc + 3) ls (va_rf r :: rest))) : W p l e R s m args below meth c H locs cells slots Q (F0 m pc ls st0) := by
  refine va_callq hr hS (fun q _ h => hk.1 q h) hk.1 (fun r' u t H1 locs1 ht hvm hw hB hz1 hk1 hS1 => ?_)
  subst hw
  have hB : va_P D vwCl wc' t.heap := hB
  rw [ht] at hB
  obtain ⟨h1, h2⟩ := hk.2.2.2 H1 hk1 hB
  exact kk H1 locs1 h1 h2 hS1
end KCS
/-- in bounds -/
def inb (i : Int32) (n : Nat) : Bool := decide (0 ≤ i.toInt) && decide (i.toInt < (n : Int))
theorem inb_vp {i : Int32} {n : Nat} (h : inb i n = true) : vp_in i n := by
  simp only [inb, Bool.and_eq_true, decide_eq_true_eq] at h
  exact vp_in_iff.mpr h
theorem g_inv {α : Type} {b : Bool} {k : Option α} {r : α} (h : (if b = true then k else none) = some r) : b = true ∧ k = some r := by
  by_cases hb : b = true
  · rw [if_pos hb] at h; exact ⟨hb, h⟩
  · rw [if_neg hb] at h; simp at h
theorem b_inv {α β : Type} {x : Option α} {f : α → Option β} {r : β} (h : x.bind f = some r) : ∃ a, x = some a ∧ f a = some r := Option.bind_eq_some_iff.mp h
/-- fuel that every loop of this system has enough of -/
def FU : Nat := 6000
end
section
theorem dX0_init_0 : decode cX0_init 0 = .ok (.aload_n 0, 1) := by decide +kernel
theorem dX0_init_1 : decode cX0_init 1 = .ok (.invokespecial 3, 3) := by decide +kernel
theorem dX0_init_4 : decode cX0_init 4 = .ok (.aload_n 0, 1) := by decide +kernel
theorem dX0_init_5 : decode cX0_init 5 = .ok (.iconst 4, 1) := by decide +kernel
theorem dX0_init_6 : decode cX0_init 6 = .ok (.newarray .int, 2) := by decide +kernel
theorem dX0_init_8 : decode cX0_init 8 = .ok (.putfield 9, 3) := by decide +kernel
theorem dX0_init_11 : decode cX0_init 11 = .ok (.aload_n 0, 1) := by decide +kernel
theorem dX0_init_12 : decode cX0_init 12 = .ok (.sipush 768, 3) := by decide +kernel
theorem dX0_init_15 : decode cX0_init 15 = .ok (.newarray .int, 2) := by decide +kernel
theorem dX0_init_17 : decode cX0_init 17 = .ok (.putfield 15, 3) := by decide +kernel
theorem dX0_init_20 : decode cX0_init 20 = .ok (.aload_n 0, 1) := by decide +kernel
theorem dX0_init_21 : decode cX0_init 21 = .ok (.iconst 0, 1) := by decide +kernel
theorem dX0_init_22 : decode cX0_init 22 = .ok (.putfield 18, 3) := by decide +kernel
theorem dX0_init_25 : decode cX0_init 25 = .ok (.return_, 1) := by decide +kernel
theorem dX0_near_0 : decode cX0_near 0 = .ok (.iload_n 1, 1) := by decide +kernel
theorem dX0_near_1 : decode cX0_near 1 = .ok (.ifCond .lt 17, 3) := by decide +kernel
theorem dX0_near_4 : decode cX0_near 4 = .ok (.iload_n 1, 1) := by decide +kernel
theorem dX0_near_5 : decode cX0_near 5 = .ok (.iconst 4, 1) := by decide +kernel
theorem dX0_near_6 : decode cX0_near 6 = .ok (.if_icmp .ge 12, 3) := by decide +kernel
theorem dX0_near_9 : decode cX0_near 9 = .ok (.aload_n 0, 1) := by decide +kernel
theorem dX0_near_10 : decode cX0_near 10 = .ok (.getfield 9, 3) := by decide +kernel
theorem dX0_near_13 : decode cX0_near 13 = .ok (.iload_n 1, 1) := by decide +kernel
theorem dX0_near_14 : decode cX0_near 14 = .ok (.iaload, 1) := by decide +kernel
theorem dX0_near_15 : decode cX0_near 15 = .ok (.goto 4, 3) := by decide +kernel
theorem dX0_near_18 : decode cX0_near 18 = .ok (.iconst 0, 1) := by decide +kernel
theorem dX0_near_19 : decode cX0_near 19 = .ok (.ireturn, 1) := by decide +kernel
theorem dX0_same_0 : decode cX0_same 0 = .ok (.iload_n 1, 1) := by decide +kernel
theorem dX0_same_1 : decode cX0_same 1 = .ok (.ifCond .lt 19, 3) := by decide +kernel
theorem dX0_same_4 : decode cX0_same 4 = .ok (.iload_n 1, 1) := by decide +kernel
theorem dX0_same_5 : decode cX0_same 5 = .ok (.sipush 768, 3) := by decide +kernel
theorem dX0_same_8 : decode cX0_same 8 = .ok (.if_icmp .ge 12, 3) := by decide +kernel
theorem dX0_same_11 : decode cX0_same 11 = .ok (.aload_n 0, 1) := by decide +kernel
theorem dX0_same_12 : decode cX0_same 12 = .ok (.getfield 15, 3) := by decide +kernel
theorem dX0_same_15 : decode cX0_same 15 = .ok (.iload_n 1, 1) := by decide +kernel
theorem dX0_same_16 : decode cX0_same 16 = .ok (.iaload, 1) := by decide +kernel
theorem dX0_same_17 : decode cX0_same 17 = .ok (.goto 4, 3) := by decide +kernel
theorem dX0_same_20 : decode cX0_same 20 = .ok (.iconst 0, 1) := by decide +kernel
theorem dX0_same_21 : decode cX0_same 21 = .ok (.ireturn, 1) := by decide +kernel
set_option maxRecDepth 20000 in
theorem ggX0_clear_J7_fill_53178 : GoodIn wsX0_clear wsJ7_fill_53178 := goodIn_r _ [7] (by decide +kernel) (by decide +kernel)
set_option maxRecDepth 20000 in
theorem gX0_clear_J7_fill_53178 : GoodIn wsX0_clear (va_wsS RX0 22 yJ7_fill_53178 wsJ7_fill_53178) := goodIn_app (goodIn_of _ (by decide +kernel)) ggX0_clear_J7_fill_53178
theorem dX0_clear_0 : decode cX0_clear 0 = .ok (.aload_n 0, 1) := by decide +kernel
theorem dX0_clear_1 : decode cX0_clear 1 = .ok (.getfield 9, 3) := by decide +kernel
theorem dX0_clear_4 : decode cX0_clear 4 = .ok (.iconst 0, 1) := by decide +kernel
theorem dX0_clear_5 : decode cX0_clear 5 = .ok (.invokestatic 22, 3) := by decide +kernel
theorem dX0_clear_8 : decode cX0_clear 8 = .ok (.aload_n 0, 1) := by decide +kernel
theorem dX0_clear_9 : decode cX0_clear 9 = .ok (.getfield 15, 3) := by decide +kernel
theorem dX0_clear_12 : decode cX0_clear 12 = .ok (.iconst 0, 1) := by decide +kernel
theorem dX0_clear_13 : decode cX0_clear 13 = .ok (.invokestatic 22, 3) := by decide +kernel
theorem dX0_clear_16 : decode cX0_clear 16 = .ok (.aload_n 0, 1) := by decide +kernel
theorem dX0_clear_17 : decode cX0_clear 17 = .ok (.iconst 0, 1) := by decide +kernel
theorem dX0_clear_18 : decode cX0_clear 18 = .ok (.putfield 18, 3) := by decide +kernel
theorem dX0_clear_21 : decode cX0_clear 21 = .ok (.return_, 1) := by decide +kernel
set_option maxRecDepth 20000 in
theorem ggX0_learn_J9_floorMod_7cf53 : GoodIn wsX0_learn wsJ9_floorMod_7cf53 := goodIn_r _ [7] (by decide +kernel) (by decide +kernel)
set_option maxRecDepth 20000 in
theorem gX0_learn_J9_floorMod_7cf53 : GoodIn wsX0_learn (va_wsS RX0 28 yJ9_floorMod_7cf53 wsJ9_floorMod_7cf53) := goodIn_app (goodIn_of _ (by decide +kernel)) ggX0_learn_J9_floorMod_7cf53
theorem dX0_learn_0 : decode cX0_learn 0 = .ok (.aload_n 0, 1) := by decide +kernel
theorem dX0_learn_1 : decode cX0_learn 1 = .ok (.getfield 9, 3) := by decide +kernel
theorem dX0_learn_4 : decode cX0_learn 4 = .ok (.aload_n 0, 1) := by decide +kernel
theorem dX0_learn_5 : decode cX0_learn 5 = .ok (.getfield 18, 3) := by decide +kernel
theorem dX0_learn_8 : decode cX0_learn 8 = .ok (.iconst 4, 1) := by decide +kernel
theorem dX0_learn_9 : decode cX0_learn 9 = .ok (.invokestatic 28, 3) := by decide +kernel
theorem dX0_learn_12 : decode cX0_learn 12 = .ok (.iload_n 1, 1) := by decide +kernel
theorem dX0_learn_13 : decode cX0_learn 13 = .ok (.iastore, 1) := by decide +kernel
theorem dX0_learn_14 : decode cX0_learn 14 = .ok (.aload_n 0, 1) := by decide +kernel
theorem dX0_learn_15 : decode cX0_learn 15 = .ok (.getfield 15, 3) := by decide +kernel
theorem dX0_learn_18 : decode cX0_learn 18 = .ok (.iload_n 1, 1) := by decide +kernel
theorem dX0_learn_19 : decode cX0_learn 19 = .ok (.sipush 768, 3) := by decide +kernel
theorem dX0_learn_22 : decode cX0_learn 22 = .ok (.invokestatic 28, 3) := by decide +kernel
theorem dX0_learn_25 : decode cX0_learn 25 = .ok (.iload_n 1, 1) := by decide +kernel
theorem dX0_learn_26 : decode cX0_learn 26 = .ok (.iastore, 1) := by decide +kernel
theorem dX0_learn_27 : decode cX0_learn 27 = .ok (.aload_n 0, 1) := by decide +kernel
theorem dX0_learn_28 : decode cX0_learn 28 = .ok (.dup, 1) := by decide +kernel
theorem dX0_learn_29 : decode cX0_learn 29 = .ok (.getfield 18, 3) := by decide +kernel
theorem dX0_learn_32 : decode cX0_learn 32 = .ok (.iconst 1, 1) := by decide +kernel
theorem dX0_learn_33 : decode cX0_learn 33 = .ok (.iadd, 1) := by decide +kernel
theorem dX0_learn_34 : decode cX0_learn 34 = .ok (.putfield 18, 3) := by decide +kernel
theorem dX0_learn_37 : decode cX0_learn 37 = .ok (.return_, 1) := by decide +kernel
set_option maxRecDepth 20000 in
theorem ggX0_leastMode_X0_integerFor : GoodIn wsX0_leastMode wsX0_integerFor := goodIn_r _ [5, 6, 7, 8, 9] (by decide +kernel) (by decide +kernel)
set_option maxRecDepth 20000 in
theorem gX0_leastMode_X0_integerFor : GoodIn wsX0_leastMode (wsV RX0 34 RX0 yX0_integerFor wsX0_integerFor) := goodIn_app (goodIn_of _ (by decide +kernel)) ggX0_leastMode_X0_integerFor
theorem dX0_leastMode_0 : decode cX0_leastMode 0 = .ok (.iconst 0, 1) := by decide +kernel
theorem dX0_leastMode_1 : decode cX0_leastMode 1 = .ok (.istore_n 3, 1) := by decide +kernel
theorem dX0_leastMode_2 : decode cX0_leastMode 2 = .ok (.iconst 1, 1) := by decide +kernel
theorem dX0_leastMode_3 : decode cX0_leastMode 3 = .ok (.istore 4, 2) := by decide +kernel
theorem dX0_leastMode_5 : decode cX0_leastMode 5 = .ok (.iload 4, 2) := by decide +kernel
theorem dX0_leastMode_7 : decode cX0_leastMode 7 = .ok (.bipush 6, 2) := by decide +kernel
theorem dX0_leastMode_9 : decode cX0_leastMode 9 = .ok (.if_icmp .ge 39, 3) := by decide +kernel
theorem dX0_leastMode_12 : decode cX0_leastMode 12 = .ok (.aload_n 0, 1) := by decide +kernel
theorem dX0_leastMode_13 : decode cX0_leastMode 13 = .ok (.iload 4, 2) := by decide +kernel
theorem dX0_leastMode_15 : decode cX0_leastMode 15 = .ok (.iload_n 1, 1) := by decide +kernel
theorem dX0_leastMode_16 : decode cX0_leastMode 16 = .ok (.iload_n 2, 1) := by decide +kernel
theorem dX0_leastMode_17 : decode cX0_leastMode 17 = .ok (.invokevirtual 34, 3) := by decide +kernel
theorem dX0_leastMode_20 : decode cX0_leastMode 20 = .ok (.istore 5, 2) := by decide +kernel
theorem dX0_leastMode_22 : decode cX0_leastMode 22 = .ok (.iload 5, 2) := by decide +kernel
theorem dX0_leastMode_24 : decode cX0_leastMode 24 = .ok (.ifCond .lt 18, 3) := by decide +kernel
theorem dX0_leastMode_27 : decode cX0_leastMode 27 = .ok (.iload 5, 2) := by decide +kernel
theorem dX0_leastMode_29 : decode cX0_leastMode 29 = .ok (.aload_n 0, 1) := by decide +kernel
theorem dX0_leastMode_30 : decode cX0_leastMode 30 = .ok (.iload_n 3, 1) := by decide +kernel
theorem dX0_leastMode_31 : decode cX0_leastMode 31 = .ok (.iload_n 1, 1) := by decide +kernel
theorem dX0_leastMode_32 : decode cX0_leastMode 32 = .ok (.iload_n 2, 1) := by decide +kernel
theorem dX0_leastMode_33 : decode cX0_leastMode 33 = .ok (.invokevirtual 34, 3) := by decide +kernel
theorem dX0_leastMode_36 : decode cX0_leastMode 36 = .ok (.if_icmp .ge 6, 3) := by decide +kernel
theorem dX0_leastMode_39 : decode cX0_leastMode 39 = .ok (.iload 4, 2) := by decide +kernel
theorem dX0_leastMode_41 : decode cX0_leastMode 41 = .ok (.istore_n 3, 1) := by decide +kernel
theorem dX0_leastMode_42 : decode cX0_leastMode 42 = .ok (.iinc 4 1, 3) := by decide +kernel
theorem dX0_leastMode_45 : decode cX0_leastMode 45 = .ok (.goto (-40), 3) := by decide +kernel
theorem dX0_leastMode_48 : decode cX0_leastMode 48 = .ok (.iload_n 3, 1) := by decide +kernel
theorem dX0_leastMode_49 : decode cX0_leastMode 49 = .ok (.ireturn, 1) := by decide +kernel
theorem dX0_integerFor_0 : decode cX0_integerFor 0 = .ok (.iload_n 1, 1) := by decide +kernel
theorem dX0_integerFor_1 : decode cX0_integerFor 1 = .ok (.iconst 2, 1) := by decide +kernel
theorem dX0_integerFor_2 : decode cX0_integerFor 2 = .ok (.if_icmp .lt 20, 3) := by decide +kernel
theorem dX0_integerFor_5 : decode cX0_integerFor 5 = .ok (.iload_n 1, 1) := by decide +kernel
theorem dX0_integerFor_6 : decode cX0_integerFor 6 = .ok (.bipush 6, 2) := by decide +kernel
theorem dX0_integerFor_8 : decode cX0_integerFor 8 = .ok (.if_icmp .ge 14, 3) := by decide +kernel
theorem dX0_integerFor_11 : decode cX0_integerFor 11 = .ok (.iload_n 2, 1) := by decide +kernel
theorem dX0_integerFor_12 : decode cX0_integerFor 12 = .ok (.aload_n 0, 1) := by decide +kernel
theorem dX0_integerFor_13 : decode cX0_integerFor 13 = .ok (.getfield 9, 3) := by decide +kernel
theorem dX0_integerFor_16 : decode cX0_integerFor 16 = .ok (.iload_n 1, 1) := by decide +kernel
theorem dX0_integerFor_17 : decode cX0_integerFor 17 = .ok (.iconst 2, 1) := by decide +kernel
theorem dX0_integerFor_18 : decode cX0_integerFor 18 = .ok (.isub, 1) := by decide +kernel
theorem dX0_integerFor_19 : decode cX0_integerFor 19 = .ok (.iaload, 1) := by decide +kernel
theorem dX0_integerFor_20 : decode cX0_integerFor 20 = .ok (.isub, 1) := by decide +kernel
theorem dX0_integerFor_21 : decode cX0_integerFor 21 = .ok (.ireturn, 1) := by decide +kernel
theorem dX0_integerFor_22 : decode cX0_integerFor 22 = .ok (.iload_n 1, 1) := by decide +kernel
theorem dX0_integerFor_23 : decode cX0_integerFor 23 = .ok (.iconst 1, 1) := by decide +kernel
theorem dX0_integerFor_24 : decode cX0_integerFor 24 = .ok (.if_icmp .ne 9, 3) := by decide +kernel
theorem dX0_integerFor_27 : decode cX0_integerFor 27 = .ok (.iload_n 3, 1) := by decide +kernel
theorem dX0_integerFor_28 : decode cX0_integerFor 28 = .ok (.iload_n 2, 1) := by decide +kernel
theorem dX0_integerFor_29 : decode cX0_integerFor 29 = .ok (.isub, 1) := by decide +kernel
theorem dX0_integerFor_30 : decode cX0_integerFor 30 = .ok (.goto 4, 3) := by decide +kernel
theorem dX0_integerFor_33 : decode cX0_integerFor 33 = .ok (.iload_n 2, 1) := by decide +kernel
theorem dX0_integerFor_34 : decode cX0_integerFor 34 = .ok (.ireturn, 1) := by decide +kernel
theorem dX0_addressFor_0 : decode cX0_addressFor 0 = .ok (.iload_n 1, 1) := by decide +kernel
theorem dX0_addressFor_1 : decode cX0_addressFor 1 = .ok (.iconst 2, 1) := by decide +kernel
theorem dX0_addressFor_2 : decode cX0_addressFor 2 = .ok (.if_icmp .lt 22, 3) := by decide +kernel
theorem dX0_addressFor_5 : decode cX0_addressFor 5 = .ok (.iload_n 1, 1) := by decide +kernel
theorem dX0_addressFor_6 : decode cX0_addressFor 6 = .ok (.bipush 6, 2) := by decide +kernel
theorem dX0_addressFor_8 : decode cX0_addressFor 8 = .ok (.if_icmp .ge 16, 3) := by decide +kernel
theorem dX0_addressFor_11 : decode cX0_addressFor 11 = .ok (.aload_n 0, 1) := by decide +kernel
theorem dX0_addressFor_12 : decode cX0_addressFor 12 = .ok (.getfield 9, 3) := by decide +kernel
theorem dX0_addressFor_15 : decode cX0_addressFor 15 = .ok (.iload_n 1, 1) := by decide +kernel
theorem dX0_addressFor_16 : decode cX0_addressFor 16 = .ok (.iconst 2, 1) := by decide +kernel
theorem dX0_addressFor_17 : decode cX0_addressFor 17 = .ok (.isub, 1) := by decide +kernel
theorem dX0_addressFor_18 : decode cX0_addressFor 18 = .ok (.iaload, 1) := by decide +kernel
theorem dX0_addressFor_19 : decode cX0_addressFor 19 = .ok (.i2l, 1) := by decide +kernel
theorem dX0_addressFor_20 : decode cX0_addressFor 20 = .ok (.iload_n 2, 1) := by decide +kernel
theorem dX0_addressFor_21 : decode cX0_addressFor 21 = .ok (.i2l, 1) := by decide +kernel
theorem dX0_addressFor_22 : decode cX0_addressFor 22 = .ok (.ladd, 1) := by decide +kernel
theorem dX0_addressFor_23 : decode cX0_addressFor 23 = .ok (.lreturn, 1) := by decide +kernel
theorem dX0_addressFor_24 : decode cX0_addressFor 24 = .ok (.iload_n 1, 1) := by decide +kernel
theorem dX0_addressFor_25 : decode cX0_addressFor 25 = .ok (.iconst 1, 1) := by decide +kernel
theorem dX0_addressFor_26 : decode cX0_addressFor 26 = .ok (.if_icmp .ne 10, 3) := by decide +kernel
theorem dX0_addressFor_29 : decode cX0_addressFor 29 = .ok (.iload_n 3, 1) := by decide +kernel
theorem dX0_addressFor_30 : decode cX0_addressFor 30 = .ok (.iload_n 2, 1) := by decide +kernel
theorem dX0_addressFor_31 : decode cX0_addressFor 31 = .ok (.isub, 1) := by decide +kernel
theorem dX0_addressFor_32 : decode cX0_addressFor 32 = .ok (.i2l, 1) := by decide +kernel
theorem dX0_addressFor_33 : decode cX0_addressFor 33 = .ok (.goto 5, 3) := by decide +kernel
theorem dX0_addressFor_36 : decode cX0_addressFor 36 = .ok (.iload_n 2, 1) := by decide +kernel
theorem dX0_addressFor_37 : decode cX0_addressFor 37 = .ok (.i2l, 1) := by decide +kernel
theorem dX0_addressFor_38 : decode cX0_addressFor 38 = .ok (.lreturn, 1) := by decide +kernel
theorem dX0_become_0 : decode cX0_become 0 = .ok (.aload_n 1, 1) := by decide +kernel
theorem dX0_become_1 : decode cX0_become 1 = .ok (.getfield 9, 3) := by decide +kernel
theorem dX0_become_4 : decode cX0_become 4 = .ok (.iconst 0, 1) := by decide +kernel
theorem dX0_become_5 : decode cX0_become 5 = .ok (.aload_n 0, 1) := by decide +kernel
theorem dX0_become_6 : decode cX0_become 6 = .ok (.getfield 9, 3) := by decide +kernel
theorem dX0_become_9 : decode cX0_become 9 = .ok (.iconst 0, 1) := by decide +kernel
theorem dX0_become_10 : decode cX0_become 10 = .ok (.iconst 4, 1) := by decide +kernel
theorem dX0_become_11 : decode cX0_become 11 = .ok (.invokestatic 38, 3) := by decide +kernel
theorem dX0_become_14 : decode cX0_become 14 = .ok (.aload_n 1, 1) := by decide +kernel
theorem dX0_become_15 : decode cX0_become 15 = .ok (.getfield 15, 3) := by decide +kernel
theorem dX0_become_18 : decode cX0_become 18 = .ok (.iconst 0, 1) := by decide +kernel
theorem dX0_become_19 : decode cX0_become 19 = .ok (.aload_n 0, 1) := by decide +kernel
theorem dX0_become_20 : decode cX0_become 20 = .ok (.getfield 15, 3) := by decide +kernel
theorem dX0_become_23 : decode cX0_become 23 = .ok (.iconst 0, 1) := by decide +kernel
theorem dX0_become_24 : decode cX0_become 24 = .ok (.sipush 768, 3) := by decide +kernel
theorem dX0_become_27 : decode cX0_become 27 = .ok (.invokestatic 38, 3) := by decide +kernel
theorem dX0_become_30 : decode cX0_become 30 = .ok (.aload_n 0, 1) := by decide +kernel
theorem dX0_become_31 : decode cX0_become 31 = .ok (.aload_n 1, 1) := by decide +kernel
theorem dX0_become_32 : decode cX0_become 32 = .ok (.getfield 18, 3) := by decide +kernel
theorem dX0_become_35 : decode cX0_become 35 = .ok (.putfield 18, 3) := by decide +kernel
theorem dX0_become_38 : decode cX0_become 38 = .ok (.return_, 1) := by decide +kernel
set_option maxRecDepth 20000 in
theorem ggX1_partOf_X1_partOfSingle : GoodIn wsX1_partOf wsX1_partOfSingle := goodIn_r _ [4] (by decide +kernel) (by decide +kernel)
set_option maxRecDepth 20000 in
theorem gX1_partOf_X1_partOfSingle : GoodIn wsX1_partOf (va_wsS RX1 11 yX1_partOfSingle wsX1_partOfSingle) := goodIn_app (goodIn_of _ (by decide +kernel)) ggX1_partOf_X1_partOfSingle
set_option maxRecDepth 20000 in
theorem ggX1_partOf_X1_partOfAddCopy : GoodIn wsX1_partOf wsX1_partOfAddCopy := goodIn_r _ [7] (by decide +kernel) (by decide +kernel)
set_option maxRecDepth 20000 in
theorem gX1_partOf_X1_partOfAddCopy : GoodIn wsX1_partOf (va_wsS RX1 15 yX1_partOfAddCopy wsX1_partOfAddCopy) := goodIn_app (goodIn_of _ (by decide +kernel)) ggX1_partOf_X1_partOfAddCopy
set_option maxRecDepth 20000 in
theorem ggX1_partOf_X1_partOfCopyAdd : GoodIn wsX1_partOf wsX1_partOfCopyAdd := goodIn_r _ [10] (by decide +kernel) (by decide +kernel)
set_option maxRecDepth 20000 in
theorem gX1_partOf_X1_partOfCopyAdd : GoodIn wsX1_partOf (va_wsS RX1 19 yX1_partOfCopyAdd wsX1_partOfCopyAdd) := goodIn_app (goodIn_of _ (by decide +kernel)) ggX1_partOf_X1_partOfCopyAdd
theorem dX1_partOf_0 : decode cX1_partOf 0 = .ok (.iload_n 0, 1) := by decide +kernel
theorem dX1_partOf_1 : decode cX1_partOf 1 = .ok (.sipush 163, 3) := by decide +kernel
theorem dX1_partOf_4 : decode cX1_partOf 4 = .ok (.if_icmp .ge 18, 3) := by decide +kernel
theorem dX1_partOf_7 : decode cX1_partOf 7 = .ok (.iload_n 1, 1) := by decide +kernel
theorem dX1_partOf_8 : decode cX1_partOf 8 = .ok (.iconst 3, 1) := by decide +kernel
theorem dX1_partOf_9 : decode cX1_partOf 9 = .ok (.if_icmp .ge 11, 3) := by decide +kernel
theorem dX1_partOf_12 : decode cX1_partOf 12 = .ok (.iload_n 0, 1) := by decide +kernel
theorem dX1_partOf_13 : decode cX1_partOf 13 = .ok (.iload_n 1, 1) := by decide +kernel
theorem dX1_partOf_14 : decode cX1_partOf 14 = .ok (.invokestatic 11, 3) := by decide +kernel
theorem dX1_partOf_17 : decode cX1_partOf 17 = .ok (.goto 4, 3) := by decide +kernel
theorem dX1_partOf_20 : decode cX1_partOf 20 = .ok (.iconst 0, 1) := by decide +kernel
theorem dX1_partOf_21 : decode cX1_partOf 21 = .ok (.ireturn, 1) := by decide +kernel
theorem dX1_partOf_22 : decode cX1_partOf 22 = .ok (.iload_n 0, 1) := by decide +kernel
theorem dX1_partOf_23 : decode cX1_partOf 23 = .ok (.sipush 235, 3) := by decide +kernel
theorem dX1_partOf_26 : decode cX1_partOf 26 = .ok (.if_icmp .ge 37, 3) := by decide +kernel
theorem dX1_partOf_29 : decode cX1_partOf 29 = .ok (.iload_n 0, 1) := by decide +kernel
theorem dX1_partOf_30 : decode cX1_partOf 30 = .ok (.sipush 163, 3) := by decide +kernel
theorem dX1_partOf_33 : decode cX1_partOf 33 = .ok (.isub, 1) := by decide +kernel
theorem dX1_partOf_34 : decode cX1_partOf 34 = .ok (.istore_n 2, 1) := by decide +kernel
theorem dX1_partOf_35 : decode cX1_partOf 35 = .ok (.iload_n 2, 1) := by decide +kernel
theorem dX1_partOf_36 : decode cX1_partOf 36 = .ok (.bipush 12, 2) := by decide +kernel
theorem dX1_partOf_38 : decode cX1_partOf 38 = .ok (.idiv, 1) := by decide +kernel
theorem dX1_partOf_39 : decode cX1_partOf 39 = .ok (.istore_n 3, 1) := by decide +kernel
theorem dX1_partOf_40 : decode cX1_partOf 40 = .ok (.iload_n 2, 1) := by decide +kernel
theorem dX1_partOf_41 : decode cX1_partOf 41 = .ok (.bipush 12, 2) := by decide +kernel
theorem dX1_partOf_43 : decode cX1_partOf 43 = .ok (.irem, 1) := by decide +kernel
theorem dX1_partOf_44 : decode cX1_partOf 44 = .ok (.iconst 3, 1) := by decide +kernel
theorem dX1_partOf_45 : decode cX1_partOf 45 = .ok (.idiv, 1) := by decide +kernel
theorem dX1_partOf_46 : decode cX1_partOf 46 = .ok (.iconst 1, 1) := by decide +kernel
theorem dX1_partOf_47 : decode cX1_partOf 47 = .ok (.iadd, 1) := by decide +kernel
theorem dX1_partOf_48 : decode cX1_partOf 48 = .ok (.istore 4, 2) := by decide +kernel
theorem dX1_partOf_50 : decode cX1_partOf 50 = .ok (.iload_n 1, 1) := by decide +kernel
theorem dX1_partOf_51 : decode cX1_partOf 51 = .ok (.iload 4, 2) := by decide +kernel
theorem dX1_partOf_53 : decode cX1_partOf 53 = .ok (.iload_n 2, 1) := by decide +kernel
theorem dX1_partOf_54 : decode cX1_partOf 54 = .ok (.iconst 3, 1) := by decide +kernel
theorem dX1_partOf_55 : decode cX1_partOf 55 = .ok (.irem, 1) := by decide +kernel
theorem dX1_partOf_56 : decode cX1_partOf 56 = .ok (.iconst 4, 1) := by decide +kernel
theorem dX1_partOf_57 : decode cX1_partOf 57 = .ok (.iadd, 1) := by decide +kernel
theorem dX1_partOf_58 : decode cX1_partOf 58 = .ok (.iload_n 3, 1) := by decide +kernel
theorem dX1_partOf_59 : decode cX1_partOf 59 = .ok (.invokestatic 15, 3) := by decide +kernel
theorem dX1_partOf_62 : decode cX1_partOf 62 = .ok (.ireturn, 1) := by decide +kernel
theorem dX1_partOf_63 : decode cX1_partOf 63 = .ok (.iload_n 0, 1) := by decide +kernel
theorem dX1_partOf_64 : decode cX1_partOf 64 = .ok (.sipush 247, 3) := by decide +kernel
theorem dX1_partOf_67 : decode cX1_partOf 67 = .ok (.if_icmp .ge 28, 3) := by decide +kernel
theorem dX1_partOf_70 : decode cX1_partOf 70 = .ok (.iload_n 0, 1) := by decide +kernel
theorem dX1_partOf_71 : decode cX1_partOf 71 = .ok (.sipush 235, 3) := by decide +kernel
theorem dX1_partOf_74 : decode cX1_partOf 74 = .ok (.isub, 1) := by decide +kernel
theorem dX1_partOf_75 : decode cX1_partOf 75 = .ok (.istore_n 2, 1) := by decide +kernel
theorem dX1_partOf_76 : decode cX1_partOf 76 = .ok (.iload_n 2, 1) := by decide +kernel
theorem dX1_partOf_77 : decode cX1_partOf 77 = .ok (.iconst 4, 1) := by decide +kernel
theorem dX1_partOf_78 : decode cX1_partOf 78 = .ok (.idiv, 1) := by decide +kernel
theorem dX1_partOf_79 : decode cX1_partOf 79 = .ok (.bipush 6, 2) := by decide +kernel
theorem dX1_partOf_81 : decode cX1_partOf 81 = .ok (.iadd, 1) := by decide +kernel
theorem dX1_partOf_82 : decode cX1_partOf 82 = .ok (.istore_n 3, 1) := by decide +kernel
theorem dX1_partOf_83 : decode cX1_partOf 83 = .ok (.iload_n 1, 1) := by decide +kernel
theorem dX1_partOf_84 : decode cX1_partOf 84 = .ok (.iload_n 2, 1) := by decide +kernel
theorem dX1_partOf_85 : decode cX1_partOf 85 = .ok (.iconst 4, 1) := by decide +kernel
theorem dX1_partOf_86 : decode cX1_partOf 86 = .ok (.irem, 1) := by decide +kernel
theorem dX1_partOf_87 : decode cX1_partOf 87 = .ok (.iconst 1, 1) := by decide +kernel
theorem dX1_partOf_88 : decode cX1_partOf 88 = .ok (.iadd, 1) := by decide +kernel
theorem dX1_partOf_89 : decode cX1_partOf 89 = .ok (.iconst 4, 1) := by decide +kernel
theorem dX1_partOf_90 : decode cX1_partOf 90 = .ok (.iload_n 3, 1) := by decide +kernel
theorem dX1_partOf_91 : decode cX1_partOf 91 = .ok (.invokestatic 15, 3) := by decide +kernel
theorem dX1_partOf_94 : decode cX1_partOf 94 = .ok (.ireturn, 1) := by decide +kernel
theorem dX1_partOf_95 : decode cX1_partOf 95 = .ok (.iload_n 1, 1) := by decide +kernel
theorem dX1_partOf_96 : decode cX1_partOf 96 = .ok (.iload_n 0, 1) := by decide +kernel
theorem dX1_partOf_97 : decode cX1_partOf 97 = .ok (.sipush 247, 3) := by decide +kernel
theorem dX1_partOf_100 : decode cX1_partOf 100 = .ok (.isub, 1) := by decide +kernel
theorem dX1_partOf_101 : decode cX1_partOf 101 = .ok (.invokestatic 19, 3) := by decide +kernel
theorem dX1_partOf_104 : decode cX1_partOf 104 = .ok (.ireturn, 1) := by decide +kernel
theorem dX1_partOfSingle_0 : decode cX1_partOfSingle 0 = .ok (.iload_n 0, 1) := by decide +kernel
theorem dX1_partOfSingle_1 : decode cX1_partOfSingle 1 = .ok (.ifCond .ne 13, 3) := by decide +kernel
theorem dX1_partOfSingle_4 : decode cX1_partOfSingle 4 = .ok (.iload_n 1, 1) := by decide +kernel
theorem dX1_partOfSingle_5 : decode cX1_partOfSingle 5 = .ok (.ifCond .ne 7, 3) := by decide +kernel
theorem dX1_partOfSingle_8 : decode cX1_partOfSingle 8 = .ok (.iconst 2, 1) := by decide +kernel
theorem dX1_partOfSingle_9 : decode cX1_partOfSingle 9 = .ok (.goto 4, 3) := by decide +kernel
theorem dX1_partOfSingle_12 : decode cX1_partOfSingle 12 = .ok (.iconst 0, 1) := by decide +kernel
theorem dX1_partOfSingle_13 : decode cX1_partOfSingle 13 = .ok (.ireturn, 1) := by decide +kernel
theorem dX1_partOfSingle_14 : decode cX1_partOfSingle 14 = .ok (.iload_n 0, 1) := by decide +kernel
theorem dX1_partOfSingle_15 : decode cX1_partOfSingle 15 = .ok (.bipush 19, 2) := by decide +kernel
theorem dX1_partOfSingle_17 : decode cX1_partOfSingle 17 = .ok (.if_icmp .ge 26, 3) := by decide +kernel
theorem dX1_partOfSingle_20 : decode cX1_partOfSingle 20 = .ok (.iload_n 0, 1) := by decide +kernel
theorem dX1_partOfSingle_21 : decode cX1_partOfSingle 21 = .ok (.iconst 1, 1) := by decide +kernel
theorem dX1_partOfSingle_22 : decode cX1_partOfSingle 22 = .ok (.isub, 1) := by decide +kernel
theorem dX1_partOfSingle_23 : decode cX1_partOfSingle 23 = .ok (.istore_n 2, 1) := by decide +kernel
theorem dX1_partOfSingle_24 : decode cX1_partOfSingle 24 = .ok (.iload_n 1, 1) := by decide +kernel
theorem dX1_partOfSingle_25 : decode cX1_partOfSingle 25 = .ok (.ifCond .ne 7, 3) := by decide +kernel
theorem dX1_partOfSingle_28 : decode cX1_partOfSingle 28 = .ok (.iconst 1, 1) := by decide +kernel
theorem dX1_partOfSingle_29 : decode cX1_partOfSingle 29 = .ok (.goto 13, 3) := by decide +kernel
theorem dX1_partOfSingle_32 : decode cX1_partOfSingle 32 = .ok (.iload_n 1, 1) := by decide +kernel
theorem dX1_partOfSingle_33 : decode cX1_partOfSingle 33 = .ok (.iconst 1, 1) := by decide +kernel
theorem dX1_partOfSingle_34 : decode cX1_partOfSingle 34 = .ok (.if_icmp .ne 7, 3) := by decide +kernel
theorem dX1_partOfSingle_37 : decode cX1_partOfSingle 37 = .ok (.iload_n 2, 1) := by decide +kernel
theorem dX1_partOfSingle_38 : decode cX1_partOfSingle 38 = .ok (.goto 4, 3) := by decide +kernel
theorem dX1_partOfSingle_41 : decode cX1_partOfSingle 41 = .ok (.iconst 0, 1) := by decide +kernel
theorem dX1_partOfSingle_42 : decode cX1_partOfSingle 42 = .ok (.ireturn, 1) := by decide +kernel
theorem dX1_partOfSingle_43 : decode cX1_partOfSingle 43 = .ok (.iload_n 0, 1) := by decide +kernel
theorem dX1_partOfSingle_44 : decode cX1_partOfSingle 44 = .ok (.bipush 19, 2) := by decide +kernel
theorem dX1_partOfSingle_46 : decode cX1_partOfSingle 46 = .ok (.isub, 1) := by decide +kernel
theorem dX1_partOfSingle_47 : decode cX1_partOfSingle 47 = .ok (.bipush 16, 2) := by decide +kernel
theorem dX1_partOfSingle_49 : decode cX1_partOfSingle 49 = .ok (.irem, 1) := by decide +kernel
theorem dX1_partOfSingle_50 : decode cX1_partOfSingle 50 = .ok (.istore_n 2, 1) := by decide +kernel
theorem dX1_partOfSingle_51 : decode cX1_partOfSingle 51 = .ok (.iload_n 2, 1) := by decide +kernel
theorem dX1_partOfSingle_52 : decode cX1_partOfSingle 52 = .ok (.ifCond .ne 7, 3) := by decide +kernel
theorem dX1_partOfSingle_55 : decode cX1_partOfSingle 55 = .ok (.iconst 0, 1) := by decide +kernel
theorem dX1_partOfSingle_56 : decode cX1_partOfSingle 56 = .ok (.goto 8, 3) := by decide +kernel
theorem dX1_partOfSingle_59 : decode cX1_partOfSingle 59 = .ok (.iload_n 2, 1) := by decide +kernel
theorem dX1_partOfSingle_60 : decode cX1_partOfSingle 60 = .ok (.iconst 4, 1) := by decide +kernel
theorem dX1_partOfSingle_61 : decode cX1_partOfSingle 61 = .ok (.iadd, 1) := by decide +kernel
theorem dX1_partOfSingle_62 : decode cX1_partOfSingle 62 = .ok (.iconst 1, 1) := by decide +kernel
theorem dX1_partOfSingle_63 : decode cX1_partOfSingle 63 = .ok (.isub, 1) := by decide +kernel
theorem dX1_partOfSingle_64 : decode cX1_partOfSingle 64 = .ok (.istore_n 3, 1) := by decide +kernel
theorem dX1_partOfSingle_65 : decode cX1_partOfSingle 65 = .ok (.iload_n 0, 1) := by decide +kernel
theorem dX1_partOfSingle_66 : decode cX1_partOfSingle 66 = .ok (.bipush 19, 2) := by decide +kernel
theorem dX1_partOfSingle_68 : decode cX1_partOfSingle 68 = .ok (.isub, 1) := by decide +kernel
theorem dX1_partOfSingle_69 : decode cX1_partOfSingle 69 = .ok (.bipush 16, 2) := by decide +kernel
theorem dX1_partOfSingle_71 : decode cX1_partOfSingle 71 = .ok (.idiv, 1) := by decide +kernel
theorem dX1_partOfSingle_72 : decode cX1_partOfSingle 72 = .ok (.istore 4, 2) := by decide +kernel
theorem dX1_partOfSingle_74 : decode cX1_partOfSingle 74 = .ok (.iload_n 1, 1) := by decide +kernel
theorem dX1_partOfSingle_75 : decode cX1_partOfSingle 75 = .ok (.ifCond .ne 7, 3) := by decide +kernel
theorem dX1_partOfSingle_78 : decode cX1_partOfSingle 78 = .ok (.iconst 3, 1) := by decide +kernel
theorem dX1_partOfSingle_79 : decode cX1_partOfSingle 79 = .ok (.goto 14, 3) := by decide +kernel
theorem dX1_partOfSingle_82 : decode cX1_partOfSingle 82 = .ok (.iload_n 1, 1) := by decide +kernel
theorem dX1_partOfSingle_83 : decode cX1_partOfSingle 83 = .ok (.iconst 1, 1) := by decide +kernel
theorem dX1_partOfSingle_84 : decode cX1_partOfSingle 84 = .ok (.if_icmp .ne 7, 3) := by decide +kernel
theorem dX1_partOfSingle_87 : decode cX1_partOfSingle 87 = .ok (.iload_n 3, 1) := by decide +kernel
theorem dX1_partOfSingle_88 : decode cX1_partOfSingle 88 = .ok (.goto 5, 3) := by decide +kernel
theorem dX1_partOfSingle_91 : decode cX1_partOfSingle 91 = .ok (.iload 4, 2) := by decide +kernel
theorem dX1_partOfSingle_93 : decode cX1_partOfSingle 93 = .ok (.ireturn, 1) := by decide +kernel
theorem dX1_partOfAddCopy_0 : decode cX1_partOfAddCopy 0 = .ok (.iload_n 0, 1) := by decide +kernel
theorem dX1_partOfAddCopy_1 : decode cX1_partOfAddCopy 1 = .ok (.tableswitch 49 0 5 #[39, 41, 49, 43, 45, 47], 39) := by decide +kernel
theorem dX1_partOfAddCopy_40 : decode cX1_partOfAddCopy 40 = .ok (.iconst 1, 1) := by decide +kernel
theorem dX1_partOfAddCopy_41 : decode cX1_partOfAddCopy 41 = .ok (.ireturn, 1) := by decide +kernel
theorem dX1_partOfAddCopy_42 : decode cX1_partOfAddCopy 42 = .ok (.iload_n 1, 1) := by decide +kernel
theorem dX1_partOfAddCopy_43 : decode cX1_partOfAddCopy 43 = .ok (.ireturn, 1) := by decide +kernel
theorem dX1_partOfAddCopy_44 : decode cX1_partOfAddCopy 44 = .ok (.iconst 3, 1) := by decide +kernel
theorem dX1_partOfAddCopy_45 : decode cX1_partOfAddCopy 45 = .ok (.ireturn, 1) := by decide +kernel
theorem dX1_partOfAddCopy_46 : decode cX1_partOfAddCopy 46 = .ok (.iload_n 2, 1) := by decide +kernel
theorem dX1_partOfAddCopy_47 : decode cX1_partOfAddCopy 47 = .ok (.ireturn, 1) := by decide +kernel
theorem dX1_partOfAddCopy_48 : decode cX1_partOfAddCopy 48 = .ok (.iload_n 3, 1) := by decide +kernel
theorem dX1_partOfAddCopy_49 : decode cX1_partOfAddCopy 49 = .ok (.ireturn, 1) := by decide +kernel
theorem dX1_partOfAddCopy_50 : decode cX1_partOfAddCopy 50 = .ok (.iconst 0, 1) := by decide +kernel
theorem dX1_partOfAddCopy_51 : decode cX1_partOfAddCopy 51 = .ok (.ireturn, 1) := by decide +kernel
theorem dX1_partOfCopyAdd_0 : decode cX1_partOfCopyAdd 0 = .ok (.iload_n 0, 1) := by decide +kernel
theorem dX1_partOfCopyAdd_1 : decode cX1_partOfCopyAdd 1 = .ok (.tableswitch 45 0 4 #[35, 37, 39, 41, 43], 35) := by decide +kernel
theorem dX1_partOfCopyAdd_36 : decode cX1_partOfCopyAdd 36 = .ok (.iconst 3, 1) := by decide +kernel
theorem dX1_partOfCopyAdd_37 : decode cX1_partOfCopyAdd 37 = .ok (.ireturn, 1) := by decide +kernel
theorem dX1_partOfCopyAdd_38 : decode cX1_partOfCopyAdd 38 = .ok (.iconst 4, 1) := by decide +kernel
theorem dX1_partOfCopyAdd_39 : decode cX1_partOfCopyAdd 39 = .ok (.ireturn, 1) := by decide +kernel
theorem dX1_partOfCopyAdd_40 : decode cX1_partOfCopyAdd 40 = .ok (.iload_n 1, 1) := by decide +kernel
theorem dX1_partOfCopyAdd_41 : decode cX1_partOfCopyAdd 41 = .ok (.ireturn, 1) := by decide +kernel
theorem dX1_partOfCopyAdd_42 : decode cX1_partOfCopyAdd 42 = .ok (.iconst 1, 1) := by decide +kernel
theorem dX1_partOfCopyAdd_43 : decode cX1_partOfCopyAdd 43 = .ok (.ireturn, 1) := by decide +kernel
theorem dX1_partOfCopyAdd_44 : decode cX1_partOfCopyAdd 44 = .ok (.iconst 1, 1) := by decide +kernel
theorem dX1_partOfCopyAdd_45 : decode cX1_partOfCopyAdd 45 = .ok (.ireturn, 1) := by decide +kernel
theorem dX1_partOfCopyAdd_46 : decode cX1_partOfCopyAdd 46 = .ok (.iconst 0, 1) := by decide +kernel
theorem dX1_partOfCopyAdd_47 : decode cX1_partOfCopyAdd 47 = .ok (.ireturn, 1) := by decide +kernel
theorem dX1_single_0 : decode cX1_single 0 = .ok (.iload_n 0, 1) := by decide +kernel
theorem dX1_single_1 : decode cX1_single 1 = .ok (.iconst 2, 1) := by decide +kernel
theorem dX1_single_2 : decode cX1_single 2 = .ok (.if_icmp .ne 5, 3) := by decide +kernel
theorem dX1_single_5 : decode cX1_single 5 = .ok (.iconst 0, 1) := by decide +kernel
theorem dX1_single_6 : decode cX1_single 6 = .ok (.ireturn, 1) := by decide +kernel
theorem dX1_single_7 : decode cX1_single 7 = .ok (.iload_n 0, 1) := by decide +kernel
theorem dX1_single_8 : decode cX1_single 8 = .ok (.iconst 1, 1) := by decide +kernel
theorem dX1_single_9 : decode cX1_single 9 = .ok (.if_icmp .ne 17, 3) := by decide +kernel
theorem dX1_single_12 : decode cX1_single 12 = .ok (.iload_n 1, 1) := by decide +kernel
theorem dX1_single_13 : decode cX1_single 13 = .ok (.bipush 17, 2) := by decide +kernel
theorem dX1_single_15 : decode cX1_single 15 = .ok (.if_icmp .gt 9, 3) := by decide +kernel
theorem dX1_single_18 : decode cX1_single 18 = .ok (.iconst 1, 1) := by decide +kernel
theorem dX1_single_19 : decode cX1_single 19 = .ok (.iload_n 1, 1) := by decide +kernel
theorem dX1_single_20 : decode cX1_single 20 = .ok (.iadd, 1) := by decide +kernel
theorem dX1_single_21 : decode cX1_single 21 = .ok (.goto 4, 3) := by decide +kernel
theorem dX1_single_24 : decode cX1_single 24 = .ok (.iconst 1, 1) := by decide +kernel
theorem dX1_single_25 : decode cX1_single 25 = .ok (.ireturn, 1) := by decide +kernel
theorem dX1_single_26 : decode cX1_single 26 = .ok (.bipush 19, 2) := by decide +kernel
theorem dX1_single_28 : decode cX1_single 28 = .ok (.bipush 16, 2) := by decide +kernel
theorem dX1_single_30 : decode cX1_single 30 = .ok (.iload_n 2, 1) := by decide +kernel
theorem dX1_single_31 : decode cX1_single 31 = .ok (.imul, 1) := by decide +kernel
theorem dX1_single_32 : decode cX1_single 32 = .ok (.iadd, 1) := by decide +kernel
theorem dX1_single_33 : decode cX1_single 33 = .ok (.istore_n 3, 1) := by decide +kernel
theorem dX1_single_34 : decode cX1_single 34 = .ok (.iload_n 1, 1) := by decide +kernel
theorem dX1_single_35 : decode cX1_single 35 = .ok (.iconst 4, 1) := by decide +kernel
theorem dX1_single_36 : decode cX1_single 36 = .ok (.if_icmp .lt 13, 3) := by decide +kernel
theorem dX1_single_39 : decode cX1_single 39 = .ok (.iload_n 1, 1) := by decide +kernel
theorem dX1_single_40 : decode cX1_single 40 = .ok (.bipush 18, 2) := by decide +kernel
theorem dX1_single_42 : decode cX1_single 42 = .ok (.if_icmp .gt 7, 3) := by decide +kernel
theorem dX1_single_45 : decode cX1_single 45 = .ok (.iconst 1, 1) := by decide +kernel
theorem dX1_single_46 : decode cX1_single 46 = .ok (.goto 4, 3) := by decide +kernel
theorem dX1_single_49 : decode cX1_single 49 = .ok (.iconst 0, 1) := by decide +kernel
theorem dX1_single_50 : decode cX1_single 50 = .ok (.istore 4, 2) := by decide +kernel
theorem dX1_single_52 : decode cX1_single 52 = .ok (.iload 4, 2) := by decide +kernel
theorem dX1_single_54 : decode cX1_single 54 = .ok (.ifCond .eq 13, 3) := by decide +kernel
theorem dX1_single_57 : decode cX1_single 57 = .ok (.iload_n 3, 1) := by decide +kernel
theorem dX1_single_58 : decode cX1_single 58 = .ok (.iload_n 1, 1) := by decide +kernel
theorem dX1_single_59 : decode cX1_single 59 = .ok (.iadd, 1) := by decide +kernel
theorem dX1_single_60 : decode cX1_single 60 = .ok (.iconst 4, 1) := by decide +kernel
theorem dX1_single_61 : decode cX1_single 61 = .ok (.isub, 1) := by decide +kernel
theorem dX1_single_62 : decode cX1_single 62 = .ok (.iconst 1, 1) := by decide +kernel
theorem dX1_single_63 : decode cX1_single 63 = .ok (.iadd, 1) := by decide +kernel
theorem dX1_single_64 : decode cX1_single 64 = .ok (.goto 4, 3) := by decide +kernel
theorem dX1_single_67 : decode cX1_single 67 = .ok (.iload_n 3, 1) := by decide +kernel
theorem dX1_single_68 : decode cX1_single 68 = .ok (.ireturn, 1) := by decide +kernel
theorem dX1_addThenCopy_0 : decode cX1_addThenCopy 0 = .ok (.iload_n 0, 1) := by decide +kernel
theorem dX1_addThenCopy_1 : decode cX1_addThenCopy 1 = .ok (.iconst 1, 1) := by decide +kernel
theorem dX1_addThenCopy_2 : decode cX1_addThenCopy 2 = .ok (.if_icmp .lt 13, 3) := by decide +kernel
theorem dX1_addThenCopy_5 : decode cX1_addThenCopy 5 = .ok (.iload_n 0, 1) := by decide +kernel
theorem dX1_addThenCopy_6 : decode cX1_addThenCopy 6 = .ok (.iconst 4, 1) := by decide +kernel
theorem dX1_addThenCopy_7 : decode cX1_addThenCopy 7 = .ok (.if_icmp .gt 8, 3) := by decide +kernel
theorem dX1_addThenCopy_10 : decode cX1_addThenCopy 10 = .ok (.iload_n 1, 1) := by decide +kernel
theorem dX1_addThenCopy_11 : decode cX1_addThenCopy 11 = .ok (.iconst 4, 1) := by decide +kernel
theorem dX1_addThenCopy_12 : decode cX1_addThenCopy 12 = .ok (.if_icmp .ge 5, 3) := by decide +kernel
theorem dX1_addThenCopy_15 : decode cX1_addThenCopy 15 = .ok (.iconst (-1), 1) := by decide +kernel
theorem dX1_addThenCopy_16 : decode cX1_addThenCopy 16 = .ok (.ireturn, 1) := by decide +kernel
theorem dX1_addThenCopy_17 : decode cX1_addThenCopy 17 = .ok (.iload_n 2, 1) := by decide +kernel
theorem dX1_addThenCopy_18 : decode cX1_addThenCopy 18 = .ok (.bipush 6, 2) := by decide +kernel
theorem dX1_addThenCopy_20 : decode cX1_addThenCopy 20 = .ok (.if_icmp .ge 34, 3) := by decide +kernel
theorem dX1_addThenCopy_23 : decode cX1_addThenCopy 23 = .ok (.bipush 12, 2) := by decide +kernel
theorem dX1_addThenCopy_25 : decode cX1_addThenCopy 25 = .ok (.iload_n 2, 1) := by decide +kernel
theorem dX1_addThenCopy_26 : decode cX1_addThenCopy 26 = .ok (.imul, 1) := by decide +kernel
theorem dX1_addThenCopy_27 : decode cX1_addThenCopy 27 = .ok (.iconst 3, 1) := by decide +kernel
theorem dX1_addThenCopy_28 : decode cX1_addThenCopy 28 = .ok (.iload_n 0, 1) := by decide +kernel
theorem dX1_addThenCopy_29 : decode cX1_addThenCopy 29 = .ok (.iconst 1, 1) := by decide +kernel
theorem dX1_addThenCopy_30 : decode cX1_addThenCopy 30 = .ok (.isub, 1) := by decide +kernel
theorem dX1_addThenCopy_31 : decode cX1_addThenCopy 31 = .ok (.imul, 1) := by decide +kernel
theorem dX1_addThenCopy_32 : decode cX1_addThenCopy 32 = .ok (.iadd, 1) := by decide +kernel
theorem dX1_addThenCopy_33 : decode cX1_addThenCopy 33 = .ok (.iload_n 1, 1) := by decide +kernel
theorem dX1_addThenCopy_34 : decode cX1_addThenCopy 34 = .ok (.iadd, 1) := by decide +kernel
theorem dX1_addThenCopy_35 : decode cX1_addThenCopy 35 = .ok (.iconst 4, 1) := by decide +kernel
theorem dX1_addThenCopy_36 : decode cX1_addThenCopy 36 = .ok (.isub, 1) := by decide +kernel
theorem dX1_addThenCopy_37 : decode cX1_addThenCopy 37 = .ok (.istore_n 3, 1) := by decide +kernel
theorem dX1_addThenCopy_38 : decode cX1_addThenCopy 38 = .ok (.iload_n 1, 1) := by decide +kernel
theorem dX1_addThenCopy_39 : decode cX1_addThenCopy 39 = .ok (.bipush 6, 2) := by decide +kernel
theorem dX1_addThenCopy_41 : decode cX1_addThenCopy 41 = .ok (.if_icmp .gt 11, 3) := by decide +kernel
theorem dX1_addThenCopy_44 : decode cX1_addThenCopy 44 = .ok (.sipush 163, 3) := by decide +kernel
theorem dX1_addThenCopy_47 : decode cX1_addThenCopy 47 = .ok (.iload_n 3, 1) := by decide +kernel
theorem dX1_addThenCopy_48 : decode cX1_addThenCopy 48 = .ok (.iadd, 1) := by decide +kernel
theorem dX1_addThenCopy_49 : decode cX1_addThenCopy 49 = .ok (.goto 4, 3) := by decide +kernel
theorem dX1_addThenCopy_52 : decode cX1_addThenCopy 52 = .ok (.iconst (-1), 1) := by decide +kernel
theorem dX1_addThenCopy_53 : decode cX1_addThenCopy 53 = .ok (.ireturn, 1) := by decide +kernel
theorem dX1_addThenCopy_54 : decode cX1_addThenCopy 54 = .ok (.iconst 4, 1) := by decide +kernel
theorem dX1_addThenCopy_55 : decode cX1_addThenCopy 55 = .ok (.iload_n 2, 1) := by decide +kernel
theorem dX1_addThenCopy_56 : decode cX1_addThenCopy 56 = .ok (.bipush 6, 2) := by decide +kernel
theorem dX1_addThenCopy_58 : decode cX1_addThenCopy 58 = .ok (.isub, 1) := by decide +kernel
theorem dX1_addThenCopy_59 : decode cX1_addThenCopy 59 = .ok (.imul, 1) := by decide +kernel
theorem dX1_addThenCopy_60 : decode cX1_addThenCopy 60 = .ok (.iload_n 0, 1) := by decide +kernel
theorem dX1_addThenCopy_61 : decode cX1_addThenCopy 61 = .ok (.iadd, 1) := by decide +kernel
theorem dX1_addThenCopy_62 : decode cX1_addThenCopy 62 = .ok (.iconst 1, 1) := by decide +kernel
theorem dX1_addThenCopy_63 : decode cX1_addThenCopy 63 = .ok (.isub, 1) := by decide +kernel
theorem dX1_addThenCopy_64 : decode cX1_addThenCopy 64 = .ok (.istore_n 3, 1) := by decide +kernel
theorem dX1_addThenCopy_65 : decode cX1_addThenCopy 65 = .ok (.iload_n 1, 1) := by decide +kernel
theorem dX1_addThenCopy_66 : decode cX1_addThenCopy 66 = .ok (.iconst 4, 1) := by decide +kernel
theorem dX1_addThenCopy_67 : decode cX1_addThenCopy 67 = .ok (.if_icmp .ne 11, 3) := by decide +kernel
theorem dX1_addThenCopy_70 : decode cX1_addThenCopy 70 = .ok (.sipush 235, 3) := by decide +kernel
theorem dX1_addThenCopy_73 : decode cX1_addThenCopy 73 = .ok (.iload_n 3, 1) := by decide +kernel
theorem dX1_addThenCopy_74 : decode cX1_addThenCopy 74 = .ok (.iadd, 1) := by decide +kernel
theorem dX1_addThenCopy_75 : decode cX1_addThenCopy 75 = .ok (.goto 4, 3) := by decide +kernel
theorem dX1_addThenCopy_78 : decode cX1_addThenCopy 78 = .ok (.iconst (-1), 1) := by decide +kernel
theorem dX1_addThenCopy_79 : decode cX1_addThenCopy 79 = .ok (.ireturn, 1) := by decide +kernel
theorem dX1_copyThenAdd_0 : decode cX1_copyThenAdd 0 = .ok (.iload_n 0, 1) := by decide +kernel
theorem dX1_copyThenAdd_1 : decode cX1_copyThenAdd 1 = .ok (.iconst 4, 1) := by decide +kernel
theorem dX1_copyThenAdd_2 : decode cX1_copyThenAdd 2 = .ok (.if_icmp .ne 16, 3) := by decide +kernel
theorem dX1_copyThenAdd_5 : decode cX1_copyThenAdd 5 = .ok (.iload_n 2, 1) := by decide +kernel
theorem dX1_copyThenAdd_6 : decode cX1_copyThenAdd 6 = .ok (.iconst 1, 1) := by decide +kernel
theorem dX1_copyThenAdd_7 : decode cX1_copyThenAdd 7 = .ok (.if_icmp .ne 11, 3) := by decide +kernel
theorem dX1_copyThenAdd_10 : decode cX1_copyThenAdd 10 = .ok (.sipush 247, 3) := by decide +kernel
theorem dX1_copyThenAdd_13 : decode cX1_copyThenAdd 13 = .ok (.iload_n 1, 1) := by decide +kernel
theorem dX1_copyThenAdd_14 : decode cX1_copyThenAdd 14 = .ok (.iadd, 1) := by decide +kernel
theorem dX1_copyThenAdd_15 : decode cX1_copyThenAdd 15 = .ok (.goto 4, 3) := by decide +kernel
theorem dX1_copyThenAdd_18 : decode cX1_copyThenAdd 18 = .ok (.iconst (-1), 1) := by decide +kernel
theorem dX1_copyThenAdd_19 : decode cX1_copyThenAdd 19 = .ok (.ireturn, 1) := by decide +kernel
set_option maxRecDepth 20000 in
theorem ggX2_init_X6_init : GoodIn wsX2_init wsX6_init := goodIn_r _ [28, 29, 2, 3, 30, 31, 32, 60, 61] (by decide +kernel) (by decide +kernel)
set_option maxRecDepth 20000 in
theorem gX2_init_X6_init : GoodIn wsX2_init (wsX6_init) := ggX2_init_X6_init
set_option maxRecDepth 20000 in
theorem ggX2_init_X0_init : GoodIn wsX2_init wsX0_init := goodIn_r _ [35, 36, 2, 3, 30, 37, 38, 39, 62, 63, 64] (by decide +kernel) (by decide +kernel)
set_option maxRecDepth 20000 in
theorem gX2_init_X0_init : GoodIn wsX2_init (wsX0_init) := ggX2_init_X0_init
set_option maxRecDepth 20000 in
theorem ggX2_init_X5_init : GoodIn wsX2_init wsX5_init := goodIn_r _ [42, 43, 2, 3, 44, 45, 46, 65, 66, 67] (by decide +kernel) (by decide +kernel)
set_option maxRecDepth 20000 in
theorem gX2_init_X5_init : GoodIn wsX2_init (wsX5_init) := ggX2_init_X5_init
theorem dX2_init_0 : decode cX2_init 0 = .ok (.aload_n 0, 1) := by decide +kernel
theorem dX2_init_1 : decode cX2_init 1 = .ok (.invokespecial 3, 3) := by decide +kernel
theorem dX2_init_4 : decode cX2_init 4 = .ok (.aload_n 0, 1) := by decide +kernel
theorem dX2_init_5 : decode cX2_init 5 = .ok (.aload_n 1, 1) := by decide +kernel
theorem dX2_init_6 : decode cX2_init 6 = .ok (.putfield 9, 3) := by decide +kernel
theorem dX2_init_9 : decode cX2_init 9 = .ok (.aload_n 0, 1) := by decide +kernel
theorem dX2_init_10 : decode cX2_init 10 = .ok (.new 15, 3) := by decide +kernel
theorem dX2_init_13 : decode cX2_init 13 = .ok (.dup, 1) := by decide +kernel
theorem dX2_init_14 : decode cX2_init 14 = .ok (.sipush 400, 3) := by decide +kernel
theorem dX2_init_17 : decode cX2_init 17 = .ok (.invokespecial 17, 3) := by decide +kernel
theorem dX2_init_20 : decode cX2_init 20 = .ok (.putfield 20, 3) := by decide +kernel
theorem dX2_init_23 : decode cX2_init 23 = .ok (.aload_n 0, 1) := by decide +kernel
theorem dX2_init_24 : decode cX2_init 24 = .ok (.new 23, 3) := by decide +kernel
theorem dX2_init_27 : decode cX2_init 27 = .ok (.dup, 1) := by decide +kernel
theorem dX2_init_28 : decode cX2_init 28 = .ok (.invokespecial 25, 3) := by decide +kernel
theorem dX2_init_31 : decode cX2_init 31 = .ok (.putfield 26, 3) := by decide +kernel
theorem dX2_init_34 : decode cX2_init 34 = .ok (.aload_n 0, 1) := by decide +kernel
theorem dX2_init_35 : decode cX2_init 35 = .ok (.new 30, 3) := by decide +kernel
theorem dX2_init_38 : decode cX2_init 38 = .ok (.dup, 1) := by decide +kernel
theorem dX2_init_39 : decode cX2_init 39 = .ok (.aload_n 2, 1) := by decide +kernel
theorem dX2_init_40 : decode cX2_init 40 = .ok (.invokespecial 32, 3) := by decide +kernel
theorem dX2_init_43 : decode cX2_init 43 = .ok (.putfield 35, 3) := by decide +kernel
theorem dX2_init_46 : decode cX2_init 46 = .ok (.aload_n 0, 1) := by decide +kernel
theorem dX2_init_47 : decode cX2_init 47 = .ok (.new 30, 3) := by decide +kernel
theorem dX2_init_50 : decode cX2_init 50 = .ok (.dup, 1) := by decide +kernel
theorem dX2_init_51 : decode cX2_init 51 = .ok (.aload_n 2, 1) := by decide +kernel
theorem dX2_init_52 : decode cX2_init 52 = .ok (.invokespecial 32, 3) := by decide +kernel
theorem dX2_init_55 : decode cX2_init 55 = .ok (.putfield 39, 3) := by decide +kernel
theorem dX2_init_58 : decode cX2_init 58 = .ok (.aload_n 0, 1) := by decide +kernel
theorem dX2_init_59 : decode cX2_init 59 = .ok (.new 30, 3) := by decide +kernel
theorem dX2_init_62 : decode cX2_init 62 = .ok (.dup, 1) := by decide +kernel
theorem dX2_init_63 : decode cX2_init 63 = .ok (.aload_n 2, 1) := by decide +kernel
theorem dX2_init_64 : decode cX2_init 64 = .ok (.invokespecial 32, 3) := by decide +kernel
theorem dX2_init_67 : decode cX2_init 67 = .ok (.putfield 42, 3) := by decide +kernel
theorem dX2_init_70 : decode cX2_init 70 = .ok (.aload_n 0, 1) := by decide +kernel
theorem dX2_init_71 : decode cX2_init 71 = .ok (.new 30, 3) := by decide +kernel
theorem dX2_init_74 : decode cX2_init 74 = .ok (.dup, 1) := by decide +kernel
theorem dX2_init_75 : decode cX2_init 75 = .ok (.aload_n 2, 1) := by decide +kernel
theorem dX2_init_76 : decode cX2_init 76 = .ok (.invokespecial 32, 3) := by decide +kernel
theorem dX2_init_79 : decode cX2_init 79 = .ok (.putfield 45, 3) := by decide +kernel
theorem dX2_init_82 : decode cX2_init 82 = .ok (.aload_n 0, 1) := by decide +kernel
theorem dX2_init_83 : decode cX2_init 83 = .ok (.iconst 0, 1) := by decide +kernel
theorem dX2_init_84 : decode cX2_init 84 = .ok (.putfield 48, 3) := by decide +kernel
theorem dX2_init_87 : decode cX2_init 87 = .ok (.aload_n 0, 1) := by decide +kernel
theorem dX2_init_88 : decode cX2_init 88 = .ok (.aload_n 1, 1) := by decide +kernel
theorem dX2_init_89 : decode cX2_init 89 = .ok (.putfield 52, 3) := by decide +kernel
theorem dX2_init_92 : decode cX2_init 92 = .ok (.aload_n 0, 1) := by decide +kernel
theorem dX2_init_93 : decode cX2_init 93 = .ok (.iconst 0, 1) := by decide +kernel
theorem dX2_init_94 : decode cX2_init 94 = .ok (.putfield 55, 3) := by decide +kernel
theorem dX2_init_97 : decode cX2_init 97 = .ok (.aload_n 0, 1) := by decide +kernel
theorem dX2_init_98 : decode cX2_init 98 = .ok (.iconst 0, 1) := by decide +kernel
theorem dX2_init_99 : decode cX2_init 99 = .ok (.putfield 58, 3) := by decide +kernel
theorem dX2_init_102 : decode cX2_init 102 = .ok (.aload_n 0, 1) := by decide +kernel
theorem dX2_init_103 : decode cX2_init 103 = .ok (.iconst 0, 1) := by decide +kernel
theorem dX2_init_104 : decode cX2_init 104 = .ok (.putfield 61, 3) := by decide +kernel
theorem dX2_init_107 : decode cX2_init 107 = .ok (.aload_n 0, 1) := by decide +kernel
theorem dX2_init_108 : decode cX2_init 108 = .ok (.iconst 0, 1) := by decide +kernel
theorem dX2_init_109 : decode cX2_init 109 = .ok (.putfield 64, 3) := by decide +kernel
theorem dX2_init_112 : decode cX2_init 112 = .ok (.return_, 1) := by decide +kernel
set_option maxRecDepth 20000 in
theorem ggX2_readDelta_X6_keep : GoodIn wsX2_readDelta wsX6_keep := goodIn_r _ [9, 10, 171, 172] (by decide +kernel) (by decide +kernel)
set_option maxRecDepth 20000 in
theorem gX2_readDelta_X6_keep : GoodIn wsX2_readDelta (wsV RX2 67 RX6 yX6_keep wsX6_keep) := goodIn_app (goodIn_of _ (by decide +kernel)) ggX2_readDelta_X6_keep
set_option maxRecDepth 20000 in
theorem ggX2_readDelta_X0_clear : GoodIn wsX2_readDelta wsX0_clear := goodIn_r _ [15, 16, 17, 18, 19, 20, 21, 22, 173, 174, 175] (by decide +kernel) (by decide +kernel)
set_option maxRecDepth 20000 in
theorem gX2_readDelta_X0_clear : GoodIn wsX2_readDelta (wsV RX2 70 RX0 yX0_clear wsX0_clear) := goodIn_app (goodIn_of _ (by decide +kernel)) ggX2_readDelta_X0_clear
set_option maxRecDepth 20000 in
theorem ggX2_readDelta_X5_open : GoodIn wsX2_readDelta wsX5_open := goodIn_r _ [27, 28, 29, 30, 31, 32, 33, 34, 35, 36, 37, 176, 177, 178, 171, 172] (by decide +kernel) (by decide +kernel)
set_option maxRecDepth 20000 in
theorem gX2_readDelta_X5_open : GoodIn wsX2_readDelta (wsV RX2 73 RX5 yX5_open wsX5_open) := goodIn_app (goodIn_of _ (by decide +kernel)) ggX2_readDelta_X5_open
set_option maxRecDepth 20000 in
theorem ggX2_readDelta_X2_readHead : GoodIn wsX2_readDelta wsX2_readHead := goodIn_r _ [42, 4, 43, 44, 45, 26, 46, 36, 37, 28, 158, 159, 160, 161, 162, 163, 164, 165, 166, 167, 168, 169, 170, 176, 177, 178, 171, 172] (by decide +kernel) (by decide +kernel)
set_option maxRecDepth 20000 in
theorem gX2_readDelta_X2_readHead : GoodIn wsX2_readDelta (wsV RX2 77 RX2 yX2_readHead wsX2_readHead) := goodIn_app (goodIn_of _ (by decide +kernel)) ggX2_readDelta_X2_readHead
set_option maxRecDepth 20000 in
theorem ggX2_readDelta_X5_left : GoodIn wsX2_readDelta wsX5_left := goodIn_r _ [50, 37, 36, 176, 177, 178] (by decide +kernel) (by decide +kernel)
set_option maxRecDepth 20000 in
theorem gX2_readDelta_X5_left : GoodIn wsX2_readDelta (wsV RX2 81 RX5 yX5_left wsX5_left) := goodIn_app (goodIn_of _ (by decide +kernel)) ggX2_readDelta_X5_left
set_option maxRecDepth 20000 in
theorem ggX2_readDelta_X2_readWindowHead : GoodIn wsX2_readDelta wsX2_readWindowHead := goodIn_r _ [54, 4, 1, 55, 56, 57, 58, 59, 41, 60, 61, 62, 63, 64, 43, 44, 45, 26, 46, 36, 37, 28, 65, 66, 67, 68, 69, 70, 71, 72, 73, 74, 8, 75, 10, 76, 77, 78, 79, 80, 81, 82, 83, 84, 85, 86, 47, 48, 49, 50, 23, 24, 25, 27, 29, 30, 31, 32, 33, 34, 35, 158, 159, 160, 161, 162, 163, 164, 165, 166, 167, 168, 169, 170, 176, 177, 178, 171, 172] (by decide +kernel) (by decide +kernel)
set_option maxRecDepth 20000 in
theorem gX2_readDelta_X2_readWindowHead : GoodIn wsX2_readDelta (wsV RX2 85 RX2 yX2_readWindowHead wsX2_readWindowHead) := goodIn_app (goodIn_of _ (by decide +kernel)) ggX2_readDelta_X2_readWindowHead
set_option maxRecDepth 20000 in
theorem ggX2_readDelta_X2_makeWindow : GoodIn wsX2_readDelta wsX2_makeWindow := goodIn_r _ [90, 2, 85, 1, 56, 84, 86, 11, 12, 13, 14, 15, 16, 17, 18, 19, 20, 21, 22, 47, 48, 49, 26, 50, 37, 36, 43, 44, 45, 46, 28, 91, 92, 93, 41, 94, 95, 96, 97, 98, 99, 100, 101, 102, 103, 104, 105, 106, 107, 65, 66, 67, 68, 69, 70, 71, 72, 73, 74, 8, 75, 10, 108, 109, 110, 111, 112, 113, 114, 115, 116, 117, 118, 119, 120, 121, 122, 123, 124, 125, 126, 127, 128, 129, 130, 131, 132, 133, 64, 55, 134, 135, 136, 137, 138, 139, 140, 141, 142, 143, 144, 145, 62, 63, 146, 147, 148, 149, 150, 151, 152, 153, 154, 155, 156, 157, 158, 159, 160, 161, 162, 163, 164, 165, 166, 167, 168, 169, 170, 173, 174, 175, 176, 177, 178, 171, 172] (by decide +kernel) (by decide +kernel)
set_option maxRecDepth 20000 in
theorem gX2_readDelta_X2_makeWindow : GoodIn wsX2_readDelta (wsV RX2 89 RX2 yX2_makeWindow wsX2_makeWindow) := goodIn_app (goodIn_of _ (by decide +kernel)) ggX2_readDelta_X2_makeWindow
set_option maxRecDepth 20000 in
theorem ggX2_readDelta_X6_count : GoodIn wsX2_readDelta wsX6_count := goodIn_r _ [75, 10, 171, 172] (by decide +kernel) (by decide +kernel)
set_option maxRecDepth 20000 in
theorem gX2_readDelta_X6_count : GoodIn wsX2_readDelta (wsV RX2 92 RX6 yX6_count wsX6_count) := goodIn_app (goodIn_of _ (by decide +kernel)) ggX2_readDelta_X6_count
theorem dX2_readDelta_0 : decode cX2_readDelta 0 = .ok (.aload_n 0, 1) := by decide +kernel
theorem dX2_readDelta_1 : decode cX2_readDelta 1 = .ok (.getfield 20, 3) := by decide +kernel
theorem dX2_readDelta_4 : decode cX2_readDelta 4 = .ok (.iconst 0, 1) := by decide +kernel
theorem dX2_readDelta_5 : decode cX2_readDelta 5 = .ok (.invokevirtual 67, 3) := by decide +kernel
theorem dX2_readDelta_8 : decode cX2_readDelta 8 = .ok (.aload_n 0, 1) := by decide +kernel
theorem dX2_readDelta_9 : decode cX2_readDelta 9 = .ok (.getfield 26, 3) := by decide +kernel
theorem dX2_readDelta_12 : decode cX2_readDelta 12 = .ok (.invokevirtual 70, 3) := by decide +kernel
theorem dX2_readDelta_15 : decode cX2_readDelta 15 = .ok (.aload_n 0, 1) := by decide +kernel
theorem dX2_readDelta_16 : decode cX2_readDelta 16 = .ok (.iconst 0, 1) := by decide +kernel
theorem dX2_readDelta_17 : decode cX2_readDelta 17 = .ok (.putfield 48, 3) := by decide +kernel
theorem dX2_readDelta_20 : decode cX2_readDelta 20 = .ok (.aload_n 0, 1) := by decide +kernel
theorem dX2_readDelta_21 : decode cX2_readDelta 21 = .ok (.getfield 35, 3) := by decide +kernel
theorem dX2_readDelta_24 : decode cX2_readDelta 24 = .ok (.iconst 0, 1) := by decide +kernel
theorem dX2_readDelta_25 : decode cX2_readDelta 25 = .ok (.sipush 1000, 3) := by decide +kernel
theorem dX2_readDelta_28 : decode cX2_readDelta 28 = .ok (.invokevirtual 73, 3) := by decide +kernel
theorem dX2_readDelta_31 : decode cX2_readDelta 31 = .ok (.aload_n 0, 1) := by decide +kernel
theorem dX2_readDelta_32 : decode cX2_readDelta 32 = .ok (.invokevirtual 77, 3) := by decide +kernel
theorem dX2_readDelta_35 : decode cX2_readDelta 35 = .ok (.ifCond .ne 6, 3) := by decide +kernel
theorem dX2_readDelta_38 : decode cX2_readDelta 38 = .ok (.bipush (-2), 2) := by decide +kernel
theorem dX2_readDelta_40 : decode cX2_readDelta 40 = .ok (.ireturn, 1) := by decide +kernel
theorem dX2_readDelta_41 : decode cX2_readDelta 41 = .ok (.iconst 0, 1) := by decide +kernel
theorem dX2_readDelta_42 : decode cX2_readDelta 42 = .ok (.istore_n 2, 1) := by decide +kernel
theorem dX2_readDelta_43 : decode cX2_readDelta 43 = .ok (.iload_n 2, 1) := by decide +kernel
theorem dX2_readDelta_44 : decode cX2_readDelta 44 = .ok (.sipush 1000, 3) := by decide +kernel
theorem dX2_readDelta_47 : decode cX2_readDelta 47 = .ok (.if_icmp .ge 51, 3) := by decide +kernel
theorem dX2_readDelta_50 : decode cX2_readDelta 50 = .ok (.aload_n 0, 1) := by decide +kernel
theorem dX2_readDelta_51 : decode cX2_readDelta 51 = .ok (.getfield 35, 3) := by decide +kernel
theorem dX2_readDelta_54 : decode cX2_readDelta 54 = .ok (.invokevirtual 81, 3) := by decide +kernel
theorem dX2_readDelta_57 : decode cX2_readDelta 57 = .ok (.ifCond .le 41, 3) := by decide +kernel
theorem dX2_readDelta_60 : decode cX2_readDelta 60 = .ok (.aload_n 0, 1) := by decide +kernel
theorem dX2_readDelta_61 : decode cX2_readDelta 61 = .ok (.iload_n 1, 1) := by decide +kernel
theorem dX2_readDelta_62 : decode cX2_readDelta 62 = .ok (.invokevirtual 85, 3) := by decide +kernel
theorem dX2_readDelta_65 : decode cX2_readDelta 65 = .ok (.istore_n 3, 1) := by decide +kernel
theorem dX2_readDelta_66 : decode cX2_readDelta 66 = .ok (.iload_n 3, 1) := by decide +kernel
theorem dX2_readDelta_67 : decode cX2_readDelta 67 = .ok (.ifCond .eq 5, 3) := by decide +kernel
theorem dX2_readDelta_70 : decode cX2_readDelta 70 = .ok (.iload_n 3, 1) := by decide +kernel
theorem dX2_readDelta_71 : decode cX2_readDelta 71 = .ok (.ireturn, 1) := by decide +kernel
theorem dX2_readDelta_72 : decode cX2_readDelta 72 = .ok (.aload_n 0, 1) := by decide +kernel
theorem dX2_readDelta_73 : decode cX2_readDelta 73 = .ok (.invokevirtual 89, 3) := by decide +kernel
theorem dX2_readDelta_76 : decode cX2_readDelta 76 = .ok (.ifCond .ne 6, 3) := by decide +kernel
theorem dX2_readDelta_79 : decode cX2_readDelta 79 = .ok (.bipush (-2), 2) := by decide +kernel
theorem dX2_readDelta_81 : decode cX2_readDelta 81 = .ok (.ireturn, 1) := by decide +kernel
theorem dX2_readDelta_82 : decode cX2_readDelta 82 = .ok (.aload_n 0, 1) := by decide +kernel
theorem dX2_readDelta_83 : decode cX2_readDelta 83 = .ok (.dup, 1) := by decide +kernel
theorem dX2_readDelta_84 : decode cX2_readDelta 84 = .ok (.getfield 48, 3) := by decide +kernel
theorem dX2_readDelta_87 : decode cX2_readDelta 87 = .ok (.iconst 1, 1) := by decide +kernel
theorem dX2_readDelta_88 : decode cX2_readDelta 88 = .ok (.iadd, 1) := by decide +kernel
theorem dX2_readDelta_89 : decode cX2_readDelta 89 = .ok (.putfield 48, 3) := by decide +kernel
theorem dX2_readDelta_92 : decode cX2_readDelta 92 = .ok (.iinc 2 1, 3) := by decide +kernel
theorem dX2_readDelta_95 : decode cX2_readDelta 95 = .ok (.goto (-52), 3) := by decide +kernel
theorem dX2_readDelta_98 : decode cX2_readDelta 98 = .ok (.aload_n 0, 1) := by decide +kernel
theorem dX2_readDelta_99 : decode cX2_readDelta 99 = .ok (.getfield 20, 3) := by decide +kernel
theorem dX2_readDelta_102 : decode cX2_readDelta 102 = .ok (.invokevirtual 92, 3) := by decide +kernel
theorem dX2_readDelta_105 : decode cX2_readDelta 105 = .ok (.ireturn, 1) := by decide +kernel
set_option maxRecDepth 20000 in
theorem ggX2_readHead_X5_nextByte : GoodIn wsX2_readHead wsX5_nextByte := goodIn_r _ [6, 7, 8, 9, 23, 24, 25, 26, 27] (by decide +kernel) (by decide +kernel)
set_option maxRecDepth 20000 in
theorem gX2_readHead_X5_nextByte : GoodIn wsX2_readHead (wsV RX2 99 RX5 yX5_nextByte wsX5_nextByte) := goodIn_app (goodIn_of _ (by decide +kernel)) ggX2_readHead_X5_nextByte
theorem dX2_readHead_0 : decode cX2_readHead 0 = .ok (.getstatic 95, 3) := by decide +kernel
theorem dX2_readHead_3 : decode cX2_readHead 3 = .ok (.astore_n 1, 1) := by decide +kernel
theorem dX2_readHead_4 : decode cX2_readHead 4 = .ok (.aload_n 1, 1) := by decide +kernel
theorem dX2_readHead_5 : decode cX2_readHead 5 = .ok (.arraylength, 1) := by decide +kernel
theorem dX2_readHead_6 : decode cX2_readHead 6 = .ok (.istore_n 2, 1) := by decide +kernel
theorem dX2_readHead_7 : decode cX2_readHead 7 = .ok (.iconst 0, 1) := by decide +kernel
theorem dX2_readHead_8 : decode cX2_readHead 8 = .ok (.istore_n 3, 1) := by decide +kernel
theorem dX2_readHead_9 : decode cX2_readHead 9 = .ok (.iload_n 3, 1) := by decide +kernel
theorem dX2_readHead_10 : decode cX2_readHead 10 = .ok (.iload_n 2, 1) := by decide +kernel
theorem dX2_readHead_11 : decode cX2_readHead 11 = .ok (.if_icmp .ge 28, 3) := by decide +kernel
theorem dX2_readHead_14 : decode cX2_readHead 14 = .ok (.aload_n 1, 1) := by decide +kernel
theorem dX2_readHead_15 : decode cX2_readHead 15 = .ok (.iload_n 3, 1) := by decide +kernel
theorem dX2_readHead_16 : decode cX2_readHead 16 = .ok (.iaload, 1) := by decide +kernel
theorem dX2_readHead_17 : decode cX2_readHead 17 = .ok (.istore 4, 2) := by decide +kernel
theorem dX2_readHead_19 : decode cX2_readHead 19 = .ok (.aload_n 0, 1) := by decide +kernel
theorem dX2_readHead_20 : decode cX2_readHead 20 = .ok (.getfield 35, 3) := by decide +kernel
theorem dX2_readHead_23 : decode cX2_readHead 23 = .ok (.invokevirtual 99, 3) := by decide +kernel
theorem dX2_readHead_26 : decode cX2_readHead 26 = .ok (.iload 4, 2) := by decide +kernel
theorem dX2_readHead_28 : decode cX2_readHead 28 = .ok (.if_icmp .eq 5, 3) := by decide +kernel
theorem dX2_readHead_31 : decode cX2_readHead 31 = .ok (.iconst 0, 1) := by decide +kernel
theorem dX2_readHead_32 : decode cX2_readHead 32 = .ok (.ireturn, 1) := by decide +kernel
theorem dX2_readHead_33 : decode cX2_readHead 33 = .ok (.iinc 3 1, 3) := by decide +kernel
theorem dX2_readHead_36 : decode cX2_readHead 36 = .ok (.goto (-27), 3) := by decide +kernel
theorem dX2_readHead_39 : decode cX2_readHead 39 = .ok (.iconst 1, 1) := by decide +kernel
theorem dX2_readHead_40 : decode cX2_readHead 40 = .ok (.ireturn, 1) := by decide +kernel
set_option maxRecDepth 20000 in
theorem ggX2_readWindowHead_X2_readSegment : GoodIn wsX2_readWindowHead wsX2_readSegment := goodIn_r _ [9, 1, 2, 10, 11, 12, 13, 14, 15, 16, 17, 18, 19, 20, 21, 22, 23, 24, 25, 26, 27, 28, 29, 30, 31, 32, 33, 34, 61, 62, 63, 64, 65, 66, 67, 68, 69, 70, 71, 72, 73, 74, 75, 76, 77, 78] (by decide +kernel) (by decide +kernel)
set_option maxRecDepth 20000 in
theorem gX2_readWindowHead_X2_readSegment : GoodIn wsX2_readWindowHead (wsV RX2 102 RX2 yX2_readSegment wsX2_readSegment) := goodIn_app (goodIn_of _ (by decide +kernel)) ggX2_readWindowHead_X2_readSegment
set_option maxRecDepth 20000 in
theorem ggX2_readWindowHead_X5_nextInteger : GoodIn wsX2_readWindowHead wsX5_nextInteger := goodIn_r _ [25, 26, 27, 28, 15, 16, 17, 18, 19, 20, 21, 74, 75, 76, 77, 78] (by decide +kernel) (by decide +kernel)
set_option maxRecDepth 20000 in
theorem gX2_readWindowHead_X5_nextInteger : GoodIn wsX2_readWindowHead (wsV RX2 105 RX5 yX5_nextInteger wsX5_nextInteger) := goodIn_app (goodIn_of _ (by decide +kernel)) ggX2_readWindowHead_X5_nextInteger
set_option maxRecDepth 20000 in
theorem ggX2_readWindowHead_X5_place : GoodIn wsX2_readWindowHead wsX5_place := goodIn_r _ [38, 19, 74, 75, 76] (by decide +kernel) (by decide +kernel)
set_option maxRecDepth 20000 in
theorem gX2_readWindowHead_X5_place : GoodIn wsX2_readWindowHead (wsV RX2 108 RX5 yX5_place wsX5_place) := goodIn_app (goodIn_of _ (by decide +kernel)) ggX2_readWindowHead_X5_place
set_option maxRecDepth 20000 in
theorem ggX2_readWindowHead_X6_count : GoodIn wsX2_readWindowHead wsX6_count := goodIn_r _ [33, 34, 77, 78] (by decide +kernel) (by decide +kernel)
set_option maxRecDepth 20000 in
theorem gX2_readWindowHead_X6_count : GoodIn wsX2_readWindowHead (wsV RX2 92 RX6 yX6_count wsX6_count) := goodIn_app (goodIn_of _ (by decide +kernel)) ggX2_readWindowHead_X6_count
set_option maxRecDepth 20000 in
theorem ggX2_readWindowHead_X2_readParts : GoodIn wsX2_readWindowHead wsX2_readParts := goodIn_r _ [42, 1, 43, 44, 45, 14, 15, 16, 17, 18, 19, 20, 21, 22, 23, 24, 25, 26, 27, 28, 35, 36, 37, 38, 46, 47, 48, 49, 50, 51, 52, 53, 54, 55, 56, 57, 58, 59, 60, 61, 62, 63, 64, 65, 66, 67, 68, 69, 70, 71, 72, 73, 74, 75, 76, 77, 78] (by decide +kernel) (by decide +kernel)
set_option maxRecDepth 20000 in
theorem gX2_readWindowHead_X2_readParts : GoodIn wsX2_readWindowHead (wsV RX2 111 RX2 yX2_readParts wsX2_readParts) := goodIn_app (goodIn_of _ (by decide +kernel)) ggX2_readWindowHead_X2_readParts
theorem dX2_readWindowHead_0 : decode cX2_readWindowHead 0 = .ok (.aload_n 0, 1) := by decide +kernel
theorem dX2_readWindowHead_1 : decode cX2_readWindowHead 1 = .ok (.invokevirtual 102, 3) := by decide +kernel
theorem dX2_readWindowHead_4 : decode cX2_readWindowHead 4 = .ok (.ifCond .ne 6, 3) := by decide +kernel
theorem dX2_readWindowHead_7 : decode cX2_readWindowHead 7 = .ok (.bipush (-2), 2) := by decide +kernel
theorem dX2_readWindowHead_9 : decode cX2_readWindowHead 9 = .ok (.ireturn, 1) := by decide +kernel
theorem dX2_readWindowHead_10 : decode cX2_readWindowHead 10 = .ok (.aload_n 0, 1) := by decide +kernel
theorem dX2_readWindowHead_11 : decode cX2_readWindowHead 11 = .ok (.getfield 35, 3) := by decide +kernel
theorem dX2_readWindowHead_14 : decode cX2_readWindowHead 14 = .ok (.invokevirtual 105, 3) := by decide +kernel
theorem dX2_readWindowHead_17 : decode cX2_readWindowHead 17 = .ok (.istore_n 2, 1) := by decide +kernel
theorem dX2_readWindowHead_18 : decode cX2_readWindowHead 18 = .ok (.aload_n 0, 1) := by decide +kernel
theorem dX2_readWindowHead_19 : decode cX2_readWindowHead 19 = .ok (.getfield 35, 3) := by decide +kernel
theorem dX2_readWindowHead_22 : decode cX2_readWindowHead 22 = .ok (.invokevirtual 108, 3) := by decide +kernel
theorem dX2_readWindowHead_25 : decode cX2_readWindowHead 25 = .ok (.istore_n 3, 1) := by decide +kernel
theorem dX2_readWindowHead_26 : decode cX2_readWindowHead 26 = .ok (.aload_n 0, 1) := by decide +kernel
theorem dX2_readWindowHead_27 : decode cX2_readWindowHead 27 = .ok (.getfield 35, 3) := by decide +kernel
theorem dX2_readWindowHead_30 : decode cX2_readWindowHead 30 = .ok (.invokevirtual 105, 3) := by decide +kernel
theorem dX2_readWindowHead_33 : decode cX2_readWindowHead 33 = .ok (.istore 4, 2) := by decide +kernel
theorem dX2_readWindowHead_35 : decode cX2_readWindowHead 35 = .ok (.iload_n 2, 1) := by decide +kernel
theorem dX2_readWindowHead_36 : decode cX2_readWindowHead 36 = .ok (.iconst (-1), 1) := by decide +kernel
theorem dX2_readWindowHead_37 : decode cX2_readWindowHead 37 = .ok (.if_icmp .eq 9, 3) := by decide +kernel
theorem dX2_readWindowHead_40 : decode cX2_readWindowHead 40 = .ok (.iload 4, 2) := by decide +kernel
theorem dX2_readWindowHead_42 : decode cX2_readWindowHead 42 = .ok (.iconst (-1), 1) := by decide +kernel
theorem dX2_readWindowHead_43 : decode cX2_readWindowHead 43 = .ok (.if_icmp .ne 6, 3) := by decide +kernel
theorem dX2_readWindowHead_46 : decode cX2_readWindowHead 46 = .ok (.bipush (-2), 2) := by decide +kernel
theorem dX2_readWindowHead_48 : decode cX2_readWindowHead 48 = .ok (.ireturn, 1) := by decide +kernel
theorem dX2_readWindowHead_49 : decode cX2_readWindowHead 49 = .ok (.iload 4, 2) := by decide +kernel
theorem dX2_readWindowHead_51 : decode cX2_readWindowHead 51 = .ok (.iload_n 1, 1) := by decide +kernel
theorem dX2_readWindowHead_52 : decode cX2_readWindowHead 52 = .ok (.aload_n 0, 1) := by decide +kernel
theorem dX2_readWindowHead_53 : decode cX2_readWindowHead 53 = .ok (.getfield 20, 3) := by decide +kernel
theorem dX2_readWindowHead_56 : decode cX2_readWindowHead 56 = .ok (.invokevirtual 92, 3) := by decide +kernel
theorem dX2_readWindowHead_59 : decode cX2_readWindowHead 59 = .ok (.isub, 1) := by decide +kernel
theorem dX2_readWindowHead_60 : decode cX2_readWindowHead 60 = .ok (.if_icmp .le 6, 3) := by decide +kernel
theorem dX2_readWindowHead_63 : decode cX2_readWindowHead 63 = .ok (.bipush (-3), 2) := by decide +kernel
theorem dX2_readWindowHead_65 : decode cX2_readWindowHead 65 = .ok (.ireturn, 1) := by decide +kernel
theorem dX2_readWindowHead_66 : decode cX2_readWindowHead 66 = .ok (.aload_n 0, 1) := by decide +kernel
theorem dX2_readWindowHead_67 : decode cX2_readWindowHead 67 = .ok (.aload_n 0, 1) := by decide +kernel
theorem dX2_readWindowHead_68 : decode cX2_readWindowHead 68 = .ok (.getfield 20, 3) := by decide +kernel
theorem dX2_readWindowHead_71 : decode cX2_readWindowHead 71 = .ok (.invokevirtual 92, 3) := by decide +kernel
theorem dX2_readWindowHead_74 : decode cX2_readWindowHead 74 = .ok (.putfield 61, 3) := by decide +kernel
theorem dX2_readWindowHead_77 : decode cX2_readWindowHead 77 = .ok (.aload_n 0, 1) := by decide +kernel
theorem dX2_readWindowHead_78 : decode cX2_readWindowHead 78 = .ok (.aload_n 0, 1) := by decide +kernel
theorem dX2_readWindowHead_79 : decode cX2_readWindowHead 79 = .ok (.getfield 61, 3) := by decide +kernel
theorem dX2_readWindowHead_82 : decode cX2_readWindowHead 82 = .ok (.iload 4, 2) := by decide +kernel
theorem dX2_readWindowHead_84 : decode cX2_readWindowHead 84 = .ok (.iadd, 1) := by decide +kernel
theorem dX2_readWindowHead_85 : decode cX2_readWindowHead 85 = .ok (.putfield 64, 3) := by decide +kernel
theorem dX2_readWindowHead_88 : decode cX2_readWindowHead 88 = .ok (.aload_n 0, 1) := by decide +kernel
theorem dX2_readWindowHead_89 : decode cX2_readWindowHead 89 = .ok (.iload_n 3, 1) := by decide +kernel
theorem dX2_readWindowHead_90 : decode cX2_readWindowHead 90 = .ok (.iload_n 2, 1) := by decide +kernel
theorem dX2_readWindowHead_91 : decode cX2_readWindowHead 91 = .ok (.invokevirtual 111, 3) := by decide +kernel
theorem dX2_readWindowHead_94 : decode cX2_readWindowHead 94 = .ok (.ifCond .eq 7, 3) := by decide +kernel
theorem dX2_readWindowHead_97 : decode cX2_readWindowHead 97 = .ok (.iconst 0, 1) := by decide +kernel
theorem dX2_readWindowHead_98 : decode cX2_readWindowHead 98 = .ok (.goto 5, 3) := by decide +kernel
theorem dX2_readWindowHead_101 : decode cX2_readWindowHead 101 = .ok (.bipush (-2), 2) := by decide +kernel
theorem dX2_readWindowHead_103 : decode cX2_readWindowHead 103 = .ok (.ireturn, 1) := by decide +kernel
set_option maxRecDepth 20000 in
theorem ggX2_readSegment_X5_nextByte : GoodIn wsX2_readSegment wsX5_nextByte := goodIn_r _ [11, 12, 13, 14, 41, 42, 43, 44, 45] (by decide +kernel) (by decide +kernel)
set_option maxRecDepth 20000 in
theorem gX2_readSegment_X5_nextByte : GoodIn wsX2_readSegment (wsV RX2 99 RX5 yX5_nextByte wsX5_nextByte) := goodIn_app (goodIn_of _ (by decide +kernel)) ggX2_readSegment_X5_nextByte
set_option maxRecDepth 20000 in
theorem ggX2_readSegment_X5_nextInteger : GoodIn wsX2_readSegment wsX5_nextInteger := goodIn_r _ [18, 19, 20, 21, 8, 9, 10, 11, 12, 13, 14, 41, 42, 43, 44, 45] (by decide +kernel) (by decide +kernel)
set_option maxRecDepth 20000 in
theorem gX2_readSegment_X5_nextInteger : GoodIn wsX2_readSegment (wsV RX2 105 RX5 yX5_nextInteger wsX5_nextInteger) := goodIn_app (goodIn_of _ (by decide +kernel)) ggX2_readSegment_X5_nextInteger
set_option maxRecDepth 20000 in
theorem ggX2_readSegment_X6_count : GoodIn wsX2_readSegment wsX6_count := goodIn_r _ [26, 27, 44, 45] (by decide +kernel) (by decide +kernel)
set_option maxRecDepth 20000 in
theorem gX2_readSegment_X6_count : GoodIn wsX2_readSegment (wsV RX2 92 RX6 yX6_count wsX6_count) := goodIn_app (goodIn_of _ (by decide +kernel)) ggX2_readSegment_X6_count
theorem dX2_readSegment_0 : decode cX2_readSegment 0 = .ok (.aload_n 0, 1) := by decide +kernel
theorem dX2_readSegment_1 : decode cX2_readSegment 1 = .ok (.getfield 35, 3) := by decide +kernel
theorem dX2_readSegment_4 : decode cX2_readSegment 4 = .ok (.invokevirtual 99, 3) := by decide +kernel
theorem dX2_readSegment_7 : decode cX2_readSegment 7 = .ok (.istore_n 1, 1) := by decide +kernel
theorem dX2_readSegment_8 : decode cX2_readSegment 8 = .ok (.aload_n 0, 1) := by decide +kernel
theorem dX2_readSegment_9 : decode cX2_readSegment 9 = .ok (.iload_n 1, 1) := by decide +kernel
theorem dX2_readSegment_10 : decode cX2_readSegment 10 = .ok (.iconst 2, 1) := by decide +kernel
theorem dX2_readSegment_11 : decode cX2_readSegment 11 = .ok (.if_icmp .ne 10, 3) := by decide +kernel
theorem dX2_readSegment_14 : decode cX2_readSegment 14 = .ok (.aload_n 0, 1) := by decide +kernel
theorem dX2_readSegment_15 : decode cX2_readSegment 15 = .ok (.getfield 20, 3) := by decide +kernel
theorem dX2_readSegment_18 : decode cX2_readSegment 18 = .ok (.goto 7, 3) := by decide +kernel
theorem dX2_readSegment_21 : decode cX2_readSegment 21 = .ok (.aload_n 0, 1) := by decide +kernel
theorem dX2_readSegment_22 : decode cX2_readSegment 22 = .ok (.getfield 9, 3) := by decide +kernel
end
section
theorem dX2_readSegment_25 : decode cX2_readSegment 25 = .ok (.putfield 52, 3) := by decide +kernel
theorem dX2_readSegment_28 : decode cX2_readSegment 28 = .ok (.aload_n 0, 1) := by decide +kernel
theorem dX2_readSegment_29 : decode cX2_readSegment 29 = .ok (.iconst 0, 1) := by decide +kernel
theorem dX2_readSegment_30 : decode cX2_readSegment 30 = .ok (.putfield 55, 3) := by decide +kernel
theorem dX2_readSegment_33 : decode cX2_readSegment 33 = .ok (.aload_n 0, 1) := by decide +kernel
theorem dX2_readSegment_34 : decode cX2_readSegment 34 = .ok (.iconst 0, 1) := by decide +kernel
theorem dX2_readSegment_35 : decode cX2_readSegment 35 = .ok (.putfield 58, 3) := by decide +kernel
theorem dX2_readSegment_38 : decode cX2_readSegment 38 = .ok (.iload_n 1, 1) := by decide +kernel
theorem dX2_readSegment_39 : decode cX2_readSegment 39 = .ok (.ifCond .ne 5, 3) := by decide +kernel
theorem dX2_readSegment_42 : decode cX2_readSegment 42 = .ok (.iconst 1, 1) := by decide +kernel
theorem dX2_readSegment_43 : decode cX2_readSegment 43 = .ok (.ireturn, 1) := by decide +kernel
theorem dX2_readSegment_44 : decode cX2_readSegment 44 = .ok (.iload_n 1, 1) := by decide +kernel
theorem dX2_readSegment_45 : decode cX2_readSegment 45 = .ok (.iconst 1, 1) := by decide +kernel
theorem dX2_readSegment_46 : decode cX2_readSegment 46 = .ok (.if_icmp .eq 10, 3) := by decide +kernel
theorem dX2_readSegment_49 : decode cX2_readSegment 49 = .ok (.iload_n 1, 1) := by decide +kernel
theorem dX2_readSegment_50 : decode cX2_readSegment 50 = .ok (.iconst 2, 1) := by decide +kernel
theorem dX2_readSegment_51 : decode cX2_readSegment 51 = .ok (.if_icmp .eq 5, 3) := by decide +kernel
theorem dX2_readSegment_54 : decode cX2_readSegment 54 = .ok (.iconst 0, 1) := by decide +kernel
theorem dX2_readSegment_55 : decode cX2_readSegment 55 = .ok (.ireturn, 1) := by decide +kernel
theorem dX2_readSegment_56 : decode cX2_readSegment 56 = .ok (.aload_n 0, 1) := by decide +kernel
theorem dX2_readSegment_57 : decode cX2_readSegment 57 = .ok (.getfield 35, 3) := by decide +kernel
theorem dX2_readSegment_60 : decode cX2_readSegment 60 = .ok (.invokevirtual 105, 3) := by decide +kernel
theorem dX2_readSegment_63 : decode cX2_readSegment 63 = .ok (.istore_n 2, 1) := by decide +kernel
theorem dX2_readSegment_64 : decode cX2_readSegment 64 = .ok (.aload_n 0, 1) := by decide +kernel
theorem dX2_readSegment_65 : decode cX2_readSegment 65 = .ok (.getfield 35, 3) := by decide +kernel
theorem dX2_readSegment_68 : decode cX2_readSegment 68 = .ok (.invokevirtual 105, 3) := by decide +kernel
theorem dX2_readSegment_71 : decode cX2_readSegment 71 = .ok (.istore_n 3, 1) := by decide +kernel
theorem dX2_readSegment_72 : decode cX2_readSegment 72 = .ok (.iload_n 2, 1) := by decide +kernel
theorem dX2_readSegment_73 : decode cX2_readSegment 73 = .ok (.iconst (-1), 1) := by decide +kernel
theorem dX2_readSegment_74 : decode cX2_readSegment 74 = .ok (.if_icmp .eq 25, 3) := by decide +kernel
theorem dX2_readSegment_77 : decode cX2_readSegment 77 = .ok (.iload_n 3, 1) := by decide +kernel
theorem dX2_readSegment_78 : decode cX2_readSegment 78 = .ok (.iconst (-1), 1) := by decide +kernel
theorem dX2_readSegment_79 : decode cX2_readSegment 79 = .ok (.if_icmp .eq 20, 3) := by decide +kernel
theorem dX2_readSegment_82 : decode cX2_readSegment 82 = .ok (.iload_n 3, 1) := by decide +kernel
theorem dX2_readSegment_83 : decode cX2_readSegment 83 = .ok (.i2l, 1) := by decide +kernel
theorem dX2_readSegment_84 : decode cX2_readSegment 84 = .ok (.iload_n 2, 1) := by decide +kernel
theorem dX2_readSegment_85 : decode cX2_readSegment 85 = .ok (.i2l, 1) := by decide +kernel
theorem dX2_readSegment_86 : decode cX2_readSegment 86 = .ok (.ladd, 1) := by decide +kernel
theorem dX2_readSegment_87 : decode cX2_readSegment 87 = .ok (.aload_n 0, 1) := by decide +kernel
theorem dX2_readSegment_88 : decode cX2_readSegment 88 = .ok (.getfield 52, 3) := by decide +kernel
theorem dX2_readSegment_91 : decode cX2_readSegment 91 = .ok (.invokevirtual 92, 3) := by decide +kernel
theorem dX2_readSegment_94 : decode cX2_readSegment 94 = .ok (.i2l, 1) := by decide +kernel
theorem dX2_readSegment_95 : decode cX2_readSegment 95 = .ok (.lcmp, 1) := by decide +kernel
theorem dX2_readSegment_96 : decode cX2_readSegment 96 = .ok (.ifCond .le 5, 3) := by decide +kernel
theorem dX2_readSegment_99 : decode cX2_readSegment 99 = .ok (.iconst 0, 1) := by decide +kernel
theorem dX2_readSegment_100 : decode cX2_readSegment 100 = .ok (.ireturn, 1) := by decide +kernel
theorem dX2_readSegment_101 : decode cX2_readSegment 101 = .ok (.aload_n 0, 1) := by decide +kernel
theorem dX2_readSegment_102 : decode cX2_readSegment 102 = .ok (.iload_n 3, 1) := by decide +kernel
theorem dX2_readSegment_103 : decode cX2_readSegment 103 = .ok (.putfield 55, 3) := by decide +kernel
theorem dX2_readSegment_106 : decode cX2_readSegment 106 = .ok (.aload_n 0, 1) := by decide +kernel
theorem dX2_readSegment_107 : decode cX2_readSegment 107 = .ok (.iload_n 2, 1) := by decide +kernel
theorem dX2_readSegment_108 : decode cX2_readSegment 108 = .ok (.putfield 58, 3) := by decide +kernel
theorem dX2_readSegment_111 : decode cX2_readSegment 111 = .ok (.iconst 1, 1) := by decide +kernel
theorem dX2_readSegment_112 : decode cX2_readSegment 112 = .ok (.ireturn, 1) := by decide +kernel
set_option maxRecDepth 20000 in
theorem ggX2_readParts_X5_nextByte : GoodIn wsX2_readParts wsX5_nextByte := goodIn_r _ [9, 10, 11, 12, 52, 53, 54, 55, 56] (by decide +kernel) (by decide +kernel)
set_option maxRecDepth 20000 in
theorem gX2_readParts_X5_nextByte : GoodIn wsX2_readParts (wsV RX2 99 RX5 yX5_nextByte wsX5_nextByte) := goodIn_app (goodIn_of _ (by decide +kernel)) ggX2_readParts_X5_nextByte
set_option maxRecDepth 20000 in
theorem ggX2_readParts_X5_nextInteger : GoodIn wsX2_readParts wsX5_nextInteger := goodIn_r _ [16, 17, 18, 19, 6, 7, 8, 9, 10, 11, 12, 52, 53, 54, 55, 56] (by decide +kernel) (by decide +kernel)
set_option maxRecDepth 20000 in
theorem gX2_readParts_X5_nextInteger : GoodIn wsX2_readParts (wsV RX2 105 RX5 yX5_nextInteger wsX5_nextInteger) := goodIn_app (goodIn_of _ (by decide +kernel)) ggX2_readParts_X5_nextInteger
set_option maxRecDepth 20000 in
theorem ggX2_readParts_X5_place : GoodIn wsX2_readParts wsX5_place := goodIn_r _ [23, 10, 52, 53, 54] (by decide +kernel) (by decide +kernel)
set_option maxRecDepth 20000 in
theorem gX2_readParts_X5_place : GoodIn wsX2_readParts (wsV RX2 108 RX5 yX5_place wsX5_place) := goodIn_app (goodIn_of _ (by decide +kernel)) ggX2_readParts_X5_place
set_option maxRecDepth 20000 in
theorem ggX2_readParts_X5_left : GoodIn wsX2_readParts wsX5_left := goodIn_r _ [27, 11, 10, 52, 53, 54] (by decide +kernel) (by decide +kernel)
set_option maxRecDepth 20000 in
theorem gX2_readParts_X5_left : GoodIn wsX2_readParts (wsV RX2 81 RX5 yX5_left wsX5_left) := goodIn_app (goodIn_of _ (by decide +kernel)) ggX2_readParts_X5_left
set_option maxRecDepth 20000 in
theorem ggX2_readParts_X5_open : GoodIn wsX2_readParts wsX5_open := goodIn_r _ [31, 12, 32, 33, 34, 35, 36, 37, 38, 10, 11, 52, 53, 54, 55, 56] (by decide +kernel) (by decide +kernel)
set_option maxRecDepth 20000 in
theorem gX2_readParts_X5_open : GoodIn wsX2_readParts (wsV RX2 73 RX5 yX5_open wsX5_open) := goodIn_app (goodIn_of _ (by decide +kernel)) ggX2_readParts_X5_open
theorem dX2_readParts_0 : decode cX2_readParts 0 = .ok (.aload_n 0, 1) := by decide +kernel
theorem dX2_readParts_1 : decode cX2_readParts 1 = .ok (.getfield 35, 3) := by decide +kernel
theorem dX2_readParts_4 : decode cX2_readParts 4 = .ok (.invokevirtual 99, 3) := by decide +kernel
theorem dX2_readParts_7 : decode cX2_readParts 7 = .ok (.ifCond .eq 5, 3) := by decide +kernel
theorem dX2_readParts_10 : decode cX2_readParts 10 = .ok (.iconst 0, 1) := by decide +kernel
theorem dX2_readParts_11 : decode cX2_readParts 11 = .ok (.ireturn, 1) := by decide +kernel
theorem dX2_readParts_12 : decode cX2_readParts 12 = .ok (.aload_n 0, 1) := by decide +kernel
theorem dX2_readParts_13 : decode cX2_readParts 13 = .ok (.getfield 35, 3) := by decide +kernel
theorem dX2_readParts_16 : decode cX2_readParts 16 = .ok (.invokevirtual 105, 3) := by decide +kernel
theorem dX2_readParts_19 : decode cX2_readParts 19 = .ok (.istore_n 3, 1) := by decide +kernel
theorem dX2_readParts_20 : decode cX2_readParts 20 = .ok (.aload_n 0, 1) := by decide +kernel
theorem dX2_readParts_21 : decode cX2_readParts 21 = .ok (.getfield 35, 3) := by decide +kernel
theorem dX2_readParts_24 : decode cX2_readParts 24 = .ok (.invokevirtual 105, 3) := by decide +kernel
theorem dX2_readParts_27 : decode cX2_readParts 27 = .ok (.istore 4, 2) := by decide +kernel
theorem dX2_readParts_29 : decode cX2_readParts 29 = .ok (.aload_n 0, 1) := by decide +kernel
theorem dX2_readParts_30 : decode cX2_readParts 30 = .ok (.getfield 35, 3) := by decide +kernel
theorem dX2_readParts_33 : decode cX2_readParts 33 = .ok (.invokevirtual 105, 3) := by decide +kernel
theorem dX2_readParts_36 : decode cX2_readParts 36 = .ok (.istore 5, 2) := by decide +kernel
theorem dX2_readParts_38 : decode cX2_readParts 38 = .ok (.iload_n 3, 1) := by decide +kernel
theorem dX2_readParts_39 : decode cX2_readParts 39 = .ok (.iconst (-1), 1) := by decide +kernel
theorem dX2_readParts_40 : decode cX2_readParts 40 = .ok (.if_icmp .eq 15, 3) := by decide +kernel
theorem dX2_readParts_43 : decode cX2_readParts 43 = .ok (.iload 4, 2) := by decide +kernel
theorem dX2_readParts_45 : decode cX2_readParts 45 = .ok (.iconst (-1), 1) := by decide +kernel
theorem dX2_readParts_46 : decode cX2_readParts 46 = .ok (.if_icmp .eq 9, 3) := by decide +kernel
theorem dX2_readParts_49 : decode cX2_readParts 49 = .ok (.iload 5, 2) := by decide +kernel
theorem dX2_readParts_51 : decode cX2_readParts 51 = .ok (.iconst (-1), 1) := by decide +kernel
theorem dX2_readParts_52 : decode cX2_readParts 52 = .ok (.if_icmp .ne 5, 3) := by decide +kernel
theorem dX2_readParts_55 : decode cX2_readParts 55 = .ok (.iconst 0, 1) := by decide +kernel
theorem dX2_readParts_56 : decode cX2_readParts 56 = .ok (.ireturn, 1) := by decide +kernel
theorem dX2_readParts_57 : decode cX2_readParts 57 = .ok (.iload_n 3, 1) := by decide +kernel
theorem dX2_readParts_58 : decode cX2_readParts 58 = .ok (.i2l, 1) := by decide +kernel
theorem dX2_readParts_59 : decode cX2_readParts 59 = .ok (.iload 4, 2) := by decide +kernel
theorem dX2_readParts_61 : decode cX2_readParts 61 = .ok (.i2l, 1) := by decide +kernel
theorem dX2_readParts_62 : decode cX2_readParts 62 = .ok (.ladd, 1) := by decide +kernel
theorem dX2_readParts_63 : decode cX2_readParts 63 = .ok (.iload 5, 2) := by decide +kernel
theorem dX2_readParts_65 : decode cX2_readParts 65 = .ok (.i2l, 1) := by decide +kernel
theorem dX2_readParts_66 : decode cX2_readParts 66 = .ok (.ladd, 1) := by decide +kernel
theorem dX2_readParts_67 : decode cX2_readParts 67 = .ok (.lstore 6, 2) := by decide +kernel
theorem dX2_readParts_69 : decode cX2_readParts 69 = .ok (.lload 6, 2) := by decide +kernel
theorem dX2_readParts_71 : decode cX2_readParts 71 = .ok (.aload_n 0, 1) := by decide +kernel
theorem dX2_readParts_72 : decode cX2_readParts 72 = .ok (.getfield 35, 3) := by decide +kernel
theorem dX2_readParts_75 : decode cX2_readParts 75 = .ok (.invokevirtual 108, 3) := by decide +kernel
theorem dX2_readParts_78 : decode cX2_readParts 78 = .ok (.i2l, 1) := by decide +kernel
theorem dX2_readParts_79 : decode cX2_readParts 79 = .ok (.ladd, 1) := by decide +kernel
theorem dX2_readParts_80 : decode cX2_readParts 80 = .ok (.iload_n 1, 1) := by decide +kernel
theorem dX2_readParts_81 : decode cX2_readParts 81 = .ok (.i2l, 1) := by decide +kernel
theorem dX2_readParts_82 : decode cX2_readParts 82 = .ok (.lsub, 1) := by decide +kernel
theorem dX2_readParts_83 : decode cX2_readParts 83 = .ok (.iload_n 2, 1) := by decide +kernel
theorem dX2_readParts_84 : decode cX2_readParts 84 = .ok (.i2l, 1) := by decide +kernel
theorem dX2_readParts_85 : decode cX2_readParts 85 = .ok (.lcmp, 1) := by decide +kernel
theorem dX2_readParts_86 : decode cX2_readParts 86 = .ok (.ifCond .ne 17, 3) := by decide +kernel
theorem dX2_readParts_89 : decode cX2_readParts 89 = .ok (.lload 6, 2) := by decide +kernel
theorem dX2_readParts_91 : decode cX2_readParts 91 = .ok (.aload_n 0, 1) := by decide +kernel
theorem dX2_readParts_92 : decode cX2_readParts 92 = .ok (.getfield 35, 3) := by decide +kernel
theorem dX2_readParts_95 : decode cX2_readParts 95 = .ok (.invokevirtual 81, 3) := by decide +kernel
theorem dX2_readParts_98 : decode cX2_readParts 98 = .ok (.i2l, 1) := by decide +kernel
theorem dX2_readParts_99 : decode cX2_readParts 99 = .ok (.lcmp, 1) := by decide +kernel
theorem dX2_readParts_100 : decode cX2_readParts 100 = .ok (.ifCond .le 5, 3) := by decide +kernel
theorem dX2_readParts_103 : decode cX2_readParts 103 = .ok (.iconst 0, 1) := by decide +kernel
theorem dX2_readParts_104 : decode cX2_readParts 104 = .ok (.ireturn, 1) := by decide +kernel
theorem dX2_readParts_105 : decode cX2_readParts 105 = .ok (.aload_n 0, 1) := by decide +kernel
theorem dX2_readParts_106 : decode cX2_readParts 106 = .ok (.getfield 35, 3) := by decide +kernel
theorem dX2_readParts_109 : decode cX2_readParts 109 = .ok (.invokevirtual 108, 3) := by decide +kernel
theorem dX2_readParts_112 : decode cX2_readParts 112 = .ok (.istore 8, 2) := by decide +kernel
theorem dX2_readParts_114 : decode cX2_readParts 114 = .ok (.aload_n 0, 1) := by decide +kernel
theorem dX2_readParts_115 : decode cX2_readParts 115 = .ok (.getfield 39, 3) := by decide +kernel
theorem dX2_readParts_118 : decode cX2_readParts 118 = .ok (.iload 8, 2) := by decide +kernel
theorem dX2_readParts_120 : decode cX2_readParts 120 = .ok (.iload_n 3, 1) := by decide +kernel
theorem dX2_readParts_121 : decode cX2_readParts 121 = .ok (.invokevirtual 73, 3) := by decide +kernel
theorem dX2_readParts_124 : decode cX2_readParts 124 = .ok (.aload_n 0, 1) := by decide +kernel
theorem dX2_readParts_125 : decode cX2_readParts 125 = .ok (.getfield 42, 3) := by decide +kernel
theorem dX2_readParts_128 : decode cX2_readParts 128 = .ok (.iload 8, 2) := by decide +kernel
theorem dX2_readParts_130 : decode cX2_readParts 130 = .ok (.iload_n 3, 1) := by decide +kernel
theorem dX2_readParts_131 : decode cX2_readParts 131 = .ok (.iadd, 1) := by decide +kernel
theorem dX2_readParts_132 : decode cX2_readParts 132 = .ok (.iload 4, 2) := by decide +kernel
theorem dX2_readParts_134 : decode cX2_readParts 134 = .ok (.invokevirtual 73, 3) := by decide +kernel
theorem dX2_readParts_137 : decode cX2_readParts 137 = .ok (.aload_n 0, 1) := by decide +kernel
theorem dX2_readParts_138 : decode cX2_readParts 138 = .ok (.getfield 45, 3) := by decide +kernel
theorem dX2_readParts_141 : decode cX2_readParts 141 = .ok (.iload 8, 2) := by decide +kernel
theorem dX2_readParts_143 : decode cX2_readParts 143 = .ok (.iload_n 3, 1) := by decide +kernel
theorem dX2_readParts_144 : decode cX2_readParts 144 = .ok (.iadd, 1) := by decide +kernel
theorem dX2_readParts_145 : decode cX2_readParts 145 = .ok (.iload 4, 2) := by decide +kernel
theorem dX2_readParts_147 : decode cX2_readParts 147 = .ok (.iadd, 1) := by decide +kernel
theorem dX2_readParts_148 : decode cX2_readParts 148 = .ok (.iload 5, 2) := by decide +kernel
theorem dX2_readParts_150 : decode cX2_readParts 150 = .ok (.invokevirtual 73, 3) := by decide +kernel
theorem dX2_readParts_153 : decode cX2_readParts 153 = .ok (.aload_n 0, 1) := by decide +kernel
theorem dX2_readParts_154 : decode cX2_readParts 154 = .ok (.getfield 35, 3) := by decide +kernel
theorem dX2_readParts_157 : decode cX2_readParts 157 = .ok (.iload 8, 2) := by decide +kernel
theorem dX2_readParts_159 : decode cX2_readParts 159 = .ok (.lload 6, 2) := by decide +kernel
theorem dX2_readParts_161 : decode cX2_readParts 161 = .ok (.l2i, 1) := by decide +kernel
theorem dX2_readParts_162 : decode cX2_readParts 162 = .ok (.iadd, 1) := by decide +kernel
theorem dX2_readParts_163 : decode cX2_readParts 163 = .ok (.sipush 1000, 3) := by decide +kernel
theorem dX2_readParts_166 : decode cX2_readParts 166 = .ok (.invokevirtual 73, 3) := by decide +kernel
theorem dX2_readParts_169 : decode cX2_readParts 169 = .ok (.iconst 1, 1) := by decide +kernel
theorem dX2_readParts_170 : decode cX2_readParts 170 = .ok (.ireturn, 1) := by decide +kernel
set_option maxRecDepth 20000 in
theorem ggX2_makeWindow_X0_clear : GoodIn wsX2_makeWindow wsX0_clear := goodIn_r _ [11, 12, 13, 14, 15, 16, 17, 18, 129, 130, 131] (by decide +kernel) (by decide +kernel)
set_option maxRecDepth 20000 in
theorem gX2_makeWindow_X0_clear : GoodIn wsX2_makeWindow (wsV RX2 70 RX0 yX0_clear wsX0_clear) := goodIn_app (goodIn_of _ (by decide +kernel)) ggX2_makeWindow_X0_clear
set_option maxRecDepth 20000 in
theorem ggX2_makeWindow_X5_left : GoodIn wsX2_makeWindow wsX5_left := goodIn_r _ [23, 24, 25, 132, 133, 134] (by decide +kernel) (by decide +kernel)
set_option maxRecDepth 20000 in
theorem gX2_makeWindow_X5_left : GoodIn wsX2_makeWindow (wsV RX2 81 RX5 yX5_left wsX5_left) := goodIn_app (goodIn_of _ (by decide +kernel)) ggX2_makeWindow_X5_left
set_option maxRecDepth 20000 in
theorem ggX2_makeWindow_X5_nextByte : GoodIn wsX2_makeWindow wsX5_nextByte := goodIn_r _ [29, 25, 24, 30, 132, 133, 134, 135, 136] (by decide +kernel) (by decide +kernel)
set_option maxRecDepth 20000 in
theorem gX2_makeWindow_X5_nextByte : GoodIn wsX2_makeWindow (wsV RX2 99 RX5 yX5_nextByte wsX5_nextByte) := goodIn_app (goodIn_of _ (by decide +kernel)) ggX2_makeWindow_X5_nextByte
set_option maxRecDepth 20000 in
theorem ggX2_makeWindow_X2_follow : GoodIn wsX2_makeWindow wsX2_follow := goodIn_r _ [35, 2, 4, 3, 36, 37, 38, 39, 40, 41, 42, 43, 44, 45, 46, 47, 48, 49, 50, 51, 22, 52, 53, 54, 55, 27, 28, 29, 25, 24, 30, 56, 57, 58, 59, 60, 61, 62, 63, 64, 34, 65, 5, 19, 20, 21, 23, 26, 66, 67, 68, 69, 70, 71, 72, 73, 74, 75, 76, 77, 78, 6, 79, 1, 80, 81, 82, 10, 83, 13, 84, 85, 86, 87, 88, 89, 90, 91, 92, 93, 12, 94, 95, 96, 97, 98, 99, 100, 101, 102, 103, 104, 105, 106, 107, 108, 109, 110, 111, 14, 112, 113, 114, 115, 116, 117, 118, 119, 120, 121, 122, 123, 124, 125, 126, 127, 128, 132, 133, 134, 135, 136, 129, 130, 131] (by decide +kernel) (by decide +kernel)
set_option maxRecDepth 20000 in
theorem gX2_makeWindow_X2_follow : GoodIn wsX2_makeWindow (wsV RX2 115 RX2 yX2_follow wsX2_follow) := goodIn_app (goodIn_of _ (by decide +kernel)) ggX2_makeWindow_X2_follow
set_option maxRecDepth 20000 in
theorem ggX2_makeWindow_X1_partOf : GoodIn wsX2_makeWindow wsX1_partOf := goodIn_r _ [39, 40, 41, 38, 42, 43, 44, 45, 46, 47, 48] (by decide +kernel) (by decide +kernel)
set_option maxRecDepth 20000 in
theorem gX2_makeWindow_X1_partOf : GoodIn wsX2_makeWindow (va_wsS RX2 118 yX1_partOf wsX1_partOf) := goodIn_app (goodIn_of _ (by decide +kernel)) ggX2_makeWindow_X1_partOf
set_option maxRecDepth 20000 in
theorem ggX2_makeWindow_X6_count : GoodIn wsX2_makeWindow wsX6_count := goodIn_r _ [60, 61, 135, 136] (by decide +kernel) (by decide +kernel)
set_option maxRecDepth 20000 in
theorem gX2_makeWindow_X6_count : GoodIn wsX2_makeWindow (wsV RX2 92 RX6 yX6_count wsX6_count) := goodIn_app (goodIn_of _ (by decide +kernel)) ggX2_makeWindow_X6_count
theorem dX2_makeWindow_0 : decode cX2_makeWindow 0 = .ok (.aload_n 0, 1) := by decide +kernel
theorem dX2_makeWindow_1 : decode cX2_makeWindow 1 = .ok (.getfield 26, 3) := by decide +kernel
theorem dX2_makeWindow_4 : decode cX2_makeWindow 4 = .ok (.invokevirtual 70, 3) := by decide +kernel
theorem dX2_makeWindow_7 : decode cX2_makeWindow 7 = .ok (.iconst 0, 1) := by decide +kernel
theorem dX2_makeWindow_8 : decode cX2_makeWindow 8 = .ok (.istore_n 1, 1) := by decide +kernel
theorem dX2_makeWindow_9 : decode cX2_makeWindow 9 = .ok (.iload_n 1, 1) := by decide +kernel
theorem dX2_makeWindow_10 : decode cX2_makeWindow 10 = .ok (.sipush 1000, 3) := by decide +kernel
theorem dX2_makeWindow_13 : decode cX2_makeWindow 13 = .ok (.if_icmp .ge 57, 3) := by decide +kernel
theorem dX2_makeWindow_16 : decode cX2_makeWindow 16 = .ok (.aload_n 0, 1) := by decide +kernel
theorem dX2_makeWindow_17 : decode cX2_makeWindow 17 = .ok (.getfield 42, 3) := by decide +kernel
theorem dX2_makeWindow_20 : decode cX2_makeWindow 20 = .ok (.invokevirtual 81, 3) := by decide +kernel
theorem dX2_makeWindow_23 : decode cX2_makeWindow 23 = .ok (.ifCond .le 47, 3) := by decide +kernel
theorem dX2_makeWindow_26 : decode cX2_makeWindow 26 = .ok (.aload_n 0, 1) := by decide +kernel
theorem dX2_makeWindow_27 : decode cX2_makeWindow 27 = .ok (.getfield 42, 3) := by decide +kernel
theorem dX2_makeWindow_30 : decode cX2_makeWindow 30 = .ok (.invokevirtual 99, 3) := by decide +kernel
theorem dX2_makeWindow_33 : decode cX2_makeWindow 33 = .ok (.istore_n 2, 1) := by decide +kernel
theorem dX2_makeWindow_34 : decode cX2_makeWindow 34 = .ok (.aload_n 0, 1) := by decide +kernel
theorem dX2_makeWindow_35 : decode cX2_makeWindow 35 = .ok (.iload_n 2, 1) := by decide +kernel
theorem dX2_makeWindow_36 : decode cX2_makeWindow 36 = .ok (.iconst 0, 1) := by decide +kernel
theorem dX2_makeWindow_37 : decode cX2_makeWindow 37 = .ok (.invokevirtual 115, 3) := by decide +kernel
theorem dX2_makeWindow_40 : decode cX2_makeWindow 40 = .ok (.ifCond .ne 5, 3) := by decide +kernel
theorem dX2_makeWindow_43 : decode cX2_makeWindow 43 = .ok (.iconst 0, 1) := by decide +kernel
theorem dX2_makeWindow_44 : decode cX2_makeWindow 44 = .ok (.ireturn, 1) := by decide +kernel
theorem dX2_makeWindow_45 : decode cX2_makeWindow 45 = .ok (.iload_n 2, 1) := by decide +kernel
theorem dX2_makeWindow_46 : decode cX2_makeWindow 46 = .ok (.iconst 3, 1) := by decide +kernel
theorem dX2_makeWindow_47 : decode cX2_makeWindow 47 = .ok (.invokestatic 118, 3) := by decide +kernel
theorem dX2_makeWindow_50 : decode cX2_makeWindow 50 = .ok (.ifCond .eq 14, 3) := by decide +kernel
theorem dX2_makeWindow_53 : decode cX2_makeWindow 53 = .ok (.aload_n 0, 1) := by decide +kernel
theorem dX2_makeWindow_54 : decode cX2_makeWindow 54 = .ok (.iload_n 2, 1) := by decide +kernel
theorem dX2_makeWindow_55 : decode cX2_makeWindow 55 = .ok (.iconst 3, 1) := by decide +kernel
theorem dX2_makeWindow_56 : decode cX2_makeWindow 56 = .ok (.invokevirtual 115, 3) := by decide +kernel
theorem dX2_makeWindow_59 : decode cX2_makeWindow 59 = .ok (.ifCond .ne 5, 3) := by decide +kernel
theorem dX2_makeWindow_62 : decode cX2_makeWindow 62 = .ok (.iconst 0, 1) := by decide +kernel
theorem dX2_makeWindow_63 : decode cX2_makeWindow 63 = .ok (.ireturn, 1) := by decide +kernel
theorem dX2_makeWindow_64 : decode cX2_makeWindow 64 = .ok (.iinc 1 1, 3) := by decide +kernel
theorem dX2_makeWindow_67 : decode cX2_makeWindow 67 = .ok (.goto (-58), 3) := by decide +kernel
theorem dX2_makeWindow_70 : decode cX2_makeWindow 70 = .ok (.aload_n 0, 1) := by decide +kernel
theorem dX2_makeWindow_71 : decode cX2_makeWindow 71 = .ok (.getfield 20, 3) := by decide +kernel
theorem dX2_makeWindow_74 : decode cX2_makeWindow 74 = .ok (.invokevirtual 92, 3) := by decide +kernel
theorem dX2_makeWindow_77 : decode cX2_makeWindow 77 = .ok (.aload_n 0, 1) := by decide +kernel
theorem dX2_makeWindow_78 : decode cX2_makeWindow 78 = .ok (.getfield 64, 3) := by decide +kernel
theorem dX2_makeWindow_81 : decode cX2_makeWindow 81 = .ok (.if_icmp .ne 27, 3) := by decide +kernel
theorem dX2_makeWindow_84 : decode cX2_makeWindow 84 = .ok (.aload_n 0, 1) := by decide +kernel
theorem dX2_makeWindow_85 : decode cX2_makeWindow 85 = .ok (.getfield 39, 3) := by decide +kernel
theorem dX2_makeWindow_88 : decode cX2_makeWindow 88 = .ok (.invokevirtual 81, 3) := by decide +kernel
theorem dX2_makeWindow_91 : decode cX2_makeWindow 91 = .ok (.ifCond .ne 17, 3) := by decide +kernel
theorem dX2_makeWindow_94 : decode cX2_makeWindow 94 = .ok (.aload_n 0, 1) := by decide +kernel
theorem dX2_makeWindow_95 : decode cX2_makeWindow 95 = .ok (.getfield 45, 3) := by decide +kernel
theorem dX2_makeWindow_98 : decode cX2_makeWindow 98 = .ok (.invokevirtual 81, 3) := by decide +kernel
theorem dX2_makeWindow_101 : decode cX2_makeWindow 101 = .ok (.ifCond .ne 7, 3) := by decide +kernel
theorem dX2_makeWindow_104 : decode cX2_makeWindow 104 = .ok (.iconst 1, 1) := by decide +kernel
theorem dX2_makeWindow_105 : decode cX2_makeWindow 105 = .ok (.goto 4, 3) := by decide +kernel
theorem dX2_makeWindow_108 : decode cX2_makeWindow 108 = .ok (.iconst 0, 1) := by decide +kernel
theorem dX2_makeWindow_109 : decode cX2_makeWindow 109 = .ok (.ireturn, 1) := by decide +kernel
set_option maxRecDepth 20000 in
theorem ggX2_follow_X1_partOf : GoodIn wsX2_follow wsX1_partOf := goodIn_r _ [7, 8, 9, 6, 10, 11, 12, 13, 14, 15, 16] (by decide +kernel) (by decide +kernel)
set_option maxRecDepth 20000 in
theorem gX2_follow_X1_partOf : GoodIn wsX2_follow (va_wsS RX2 118 yX1_partOf wsX1_partOf) := goodIn_app (goodIn_of _ (by decide +kernel)) ggX2_follow_X1_partOf
set_option maxRecDepth 20000 in
theorem ggX2_follow_X5_nextInteger : GoodIn wsX2_follow wsX5_nextInteger := goodIn_r _ [21, 22, 23, 24, 25, 26, 20, 27, 28, 29, 30, 117, 118, 119, 120, 121] (by decide +kernel) (by decide +kernel)
set_option maxRecDepth 20000 in
theorem gX2_follow_X5_nextInteger : GoodIn wsX2_follow (wsV RX2 105 RX5 yX5_nextInteger wsX5_nextInteger) := goodIn_app (goodIn_of _ (by decide +kernel)) ggX2_follow_X5_nextInteger
set_option maxRecDepth 20000 in
theorem ggX2_follow_X6_count : GoodIn wsX2_follow wsX6_count := goodIn_r _ [35, 36, 120, 121] (by decide +kernel) (by decide +kernel)
set_option maxRecDepth 20000 in
theorem gX2_follow_X6_count : GoodIn wsX2_follow (wsV RX2 92 RX6 yX6_count wsX6_count) := goodIn_app (goodIn_of _ (by decide +kernel)) ggX2_follow_X6_count
set_option maxRecDepth 20000 in
theorem ggX2_follow_X2_add : GoodIn wsX2_follow wsX2_add := goodIn_r _ [41, 42, 3, 43, 44, 45, 20, 46, 29, 28, 47, 25, 26, 27, 30, 48, 49, 50, 34, 51, 36, 52, 104, 105, 106, 107, 108, 109, 110, 111, 112, 113, 114, 115, 116, 117, 118, 119, 120, 121] (by decide +kernel) (by decide +kernel)
set_option maxRecDepth 20000 in
theorem gX2_follow_X2_add : GoodIn wsX2_follow (wsV RX2 124 RX2 yX2_add wsX2_add) := goodIn_app (goodIn_of _ (by decide +kernel)) ggX2_follow_X2_add
set_option maxRecDepth 20000 in
theorem ggX2_follow_X2_run : GoodIn wsX2_follow wsX2_run := goodIn_r _ [56, 42, 3, 47, 25, 26, 20, 27, 28, 29, 30, 48, 49, 50, 34, 51, 36, 52, 104, 105, 106, 107, 108, 109, 110, 111, 112, 113, 114, 115, 116, 117, 118, 119, 120, 121] (by decide +kernel) (by decide +kernel)
set_option maxRecDepth 20000 in
theorem gX2_follow_X2_run : GoodIn wsX2_follow (wsV RX2 128 RX2 yX2_run wsX2_run) := goodIn_app (goodIn_of _ (by decide +kernel)) ggX2_follow_X2_run
set_option maxRecDepth 20000 in
theorem ggX2_follow_X2_readAddress : GoodIn wsX2_follow wsX2_readAddress := goodIn_r _ [60, 61, 62, 63, 47, 25, 26, 20, 27, 28, 29, 30, 64, 65, 66, 67, 68, 69, 17, 18, 19, 21, 22, 23, 24, 70, 71, 72, 40, 73, 74, 3, 75, 31, 32, 33, 34, 35, 36, 76, 77, 78, 79, 80, 104, 105, 106, 107, 108, 109, 110, 111, 112, 113, 114, 115, 116, 117, 118, 119, 120, 121, 122, 123, 124] (by decide +kernel) (by decide +kernel)
set_option maxRecDepth 20000 in
theorem gX2_follow_X2_readAddress : GoodIn wsX2_follow (wsV RX2 131 RX2 yX2_readAddress wsX2_readAddress) := goodIn_app (goodIn_of _ (by decide +kernel)) ggX2_follow_X2_readAddress
set_option maxRecDepth 20000 in
theorem ggX2_follow_X2_copy : GoodIn wsX2_follow wsX2_copy := goodIn_r _ [84, 3, 63, 70, 71, 72, 40, 73, 74, 75, 31, 32, 33, 34, 35, 36, 85, 86, 87, 88, 89, 90, 91, 92, 93, 94, 52, 48, 49, 50, 51, 95, 96, 97, 67, 98, 80, 99, 69, 100, 101, 102, 103, 104, 105, 106, 107, 108, 109, 110, 111, 112, 113, 114, 115, 116, 120, 121, 122, 123, 124] (by decide +kernel) (by decide +kernel)
set_option maxRecDepth 20000 in
theorem gX2_follow_X2_copy : GoodIn wsX2_follow (wsV RX2 135 RX2 yX2_copy wsX2_copy) := goodIn_app (goodIn_of _ (by decide +kernel)) ggX2_follow_X2_copy
theorem dX2_follow_0 : decode cX2_follow 0 = .ok (.iload_n 1, 1) := by decide +kernel
theorem dX2_follow_1 : decode cX2_follow 1 = .ok (.iload_n 2, 1) := by decide +kernel
theorem dX2_follow_2 : decode cX2_follow 2 = .ok (.iconst 1, 1) := by decide +kernel
theorem dX2_follow_3 : decode cX2_follow 3 = .ok (.iadd, 1) := by decide +kernel
theorem dX2_follow_4 : decode cX2_follow 4 = .ok (.invokestatic 118, 3) := by decide +kernel
theorem dX2_follow_7 : decode cX2_follow 7 = .ok (.istore_n 3, 1) := by decide +kernel
theorem dX2_follow_8 : decode cX2_follow 8 = .ok (.iload_n 3, 1) := by decide +kernel
theorem dX2_follow_9 : decode cX2_follow 9 = .ok (.ifCond .ne 11, 3) := by decide +kernel
theorem dX2_follow_12 : decode cX2_follow 12 = .ok (.aload_n 0, 1) := by decide +kernel
theorem dX2_follow_13 : decode cX2_follow 13 = .ok (.getfield 42, 3) := by decide +kernel
theorem dX2_follow_16 : decode cX2_follow 16 = .ok (.invokevirtual 105, 3) := by decide +kernel
theorem dX2_follow_19 : decode cX2_follow 19 = .ok (.istore_n 3, 1) := by decide +kernel
theorem dX2_follow_20 : decode cX2_follow 20 = .ok (.iload_n 3, 1) := by decide +kernel
theorem dX2_follow_21 : decode cX2_follow 21 = .ok (.iconst 1, 1) := by decide +kernel
theorem dX2_follow_22 : decode cX2_follow 22 = .ok (.if_icmp .lt 19, 3) := by decide +kernel
theorem dX2_follow_25 : decode cX2_follow 25 = .ok (.iload_n 3, 1) := by decide +kernel
theorem dX2_follow_26 : decode cX2_follow 26 = .ok (.aload_n 0, 1) := by decide +kernel
theorem dX2_follow_27 : decode cX2_follow 27 = .ok (.getfield 64, 3) := by decide +kernel
theorem dX2_follow_30 : decode cX2_follow 30 = .ok (.aload_n 0, 1) := by decide +kernel
theorem dX2_follow_31 : decode cX2_follow 31 = .ok (.getfield 20, 3) := by decide +kernel
theorem dX2_follow_34 : decode cX2_follow 34 = .ok (.invokevirtual 92, 3) := by decide +kernel
theorem dX2_follow_37 : decode cX2_follow 37 = .ok (.isub, 1) := by decide +kernel
theorem dX2_follow_38 : decode cX2_follow 38 = .ok (.if_icmp .le 5, 3) := by decide +kernel
theorem dX2_follow_41 : decode cX2_follow 41 = .ok (.iconst 0, 1) := by decide +kernel
theorem dX2_follow_42 : decode cX2_follow 42 = .ok (.ireturn, 1) := by decide +kernel
theorem dX2_follow_43 : decode cX2_follow 43 = .ok (.iload_n 1, 1) := by decide +kernel
theorem dX2_follow_44 : decode cX2_follow 44 = .ok (.iload_n 2, 1) := by decide +kernel
theorem dX2_follow_45 : decode cX2_follow 45 = .ok (.invokestatic 118, 3) := by decide +kernel
theorem dX2_follow_48 : decode cX2_follow 48 = .ok (.lookupswitch 40 #[(1, 28), (2, 34)], 28) := by decide +kernel
theorem dX2_follow_76 : decode cX2_follow 76 = .ok (.aload_n 0, 1) := by decide +kernel
theorem dX2_follow_77 : decode cX2_follow 77 = .ok (.iload_n 3, 1) := by decide +kernel
theorem dX2_follow_78 : decode cX2_follow 78 = .ok (.invokevirtual 124, 3) := by decide +kernel
theorem dX2_follow_81 : decode cX2_follow 81 = .ok (.ireturn, 1) := by decide +kernel
theorem dX2_follow_82 : decode cX2_follow 82 = .ok (.aload_n 0, 1) := by decide +kernel
theorem dX2_follow_83 : decode cX2_follow 83 = .ok (.iload_n 3, 1) := by decide +kernel
theorem dX2_follow_84 : decode cX2_follow 84 = .ok (.invokevirtual 128, 3) := by decide +kernel
theorem dX2_follow_87 : decode cX2_follow 87 = .ok (.ireturn, 1) := by decide +kernel
theorem dX2_follow_88 : decode cX2_follow 88 = .ok (.aload_n 0, 1) := by decide +kernel
theorem dX2_follow_89 : decode cX2_follow 89 = .ok (.iload_n 3, 1) := by decide +kernel
theorem dX2_follow_90 : decode cX2_follow 90 = .ok (.aload_n 0, 1) := by decide +kernel
theorem dX2_follow_91 : decode cX2_follow 91 = .ok (.iload_n 1, 1) := by decide +kernel
theorem dX2_follow_92 : decode cX2_follow 92 = .ok (.iload_n 2, 1) := by decide +kernel
theorem dX2_follow_93 : decode cX2_follow 93 = .ok (.iconst 2, 1) := by decide +kernel
theorem dX2_follow_94 : decode cX2_follow 94 = .ok (.iadd, 1) := by decide +kernel
theorem dX2_follow_95 : decode cX2_follow 95 = .ok (.invokestatic 118, 3) := by decide +kernel
theorem dX2_follow_98 : decode cX2_follow 98 = .ok (.invokevirtual 131, 3) := by decide +kernel
theorem dX2_follow_101 : decode cX2_follow 101 = .ok (.invokevirtual 135, 3) := by decide +kernel
theorem dX2_follow_104 : decode cX2_follow 104 = .ok (.ireturn, 1) := by decide +kernel
set_option maxRecDepth 20000 in
theorem ggX2_add_X5_left : GoodIn wsX2_add wsX5_left := goodIn_r _ [7, 8, 9, 35, 36, 37] (by decide +kernel) (by decide +kernel)
set_option maxRecDepth 20000 in
theorem gX2_add_X5_left : GoodIn wsX2_add (wsV RX2 81 RX5 yX5_left wsX5_left) := goodIn_app (goodIn_of _ (by decide +kernel)) ggX2_add_X5_left
set_option maxRecDepth 20000 in
theorem ggX2_add_X5_nextByte : GoodIn wsX2_add wsX5_nextByte := goodIn_r _ [13, 9, 8, 14, 35, 36, 37, 38, 39] (by decide +kernel) (by decide +kernel)
set_option maxRecDepth 20000 in
theorem gX2_add_X5_nextByte : GoodIn wsX2_add (wsV RX2 99 RX5 yX5_nextByte wsX5_nextByte) := goodIn_app (goodIn_of _ (by decide +kernel)) ggX2_add_X5_nextByte
set_option maxRecDepth 20000 in
theorem ggX2_add_X6_append : GoodIn wsX2_add wsX6_append := goodIn_r _ [19, 20, 21, 38, 39] (by decide +kernel) (by decide +kernel)
set_option maxRecDepth 20000 in
theorem gX2_add_X6_append : GoodIn wsX2_add (wsV RX2 139 RX6 yX6_append wsX6_append) := goodIn_app (goodIn_of _ (by decide +kernel)) ggX2_add_X6_append
theorem dX2_add_0 : decode cX2_add 0 = .ok (.iload_n 1, 1) := by decide +kernel
theorem dX2_add_1 : decode cX2_add 1 = .ok (.aload_n 0, 1) := by decide +kernel
theorem dX2_add_2 : decode cX2_add 2 = .ok (.getfield 39, 3) := by decide +kernel
theorem dX2_add_5 : decode cX2_add 5 = .ok (.invokevirtual 81, 3) := by decide +kernel
theorem dX2_add_8 : decode cX2_add 8 = .ok (.if_icmp .le 5, 3) := by decide +kernel
theorem dX2_add_11 : decode cX2_add 11 = .ok (.iconst 0, 1) := by decide +kernel
theorem dX2_add_12 : decode cX2_add 12 = .ok (.ireturn, 1) := by decide +kernel
theorem dX2_add_13 : decode cX2_add 13 = .ok (.iconst 0, 1) := by decide +kernel
theorem dX2_add_14 : decode cX2_add 14 = .ok (.istore_n 2, 1) := by decide +kernel
theorem dX2_add_15 : decode cX2_add 15 = .ok (.iload_n 2, 1) := by decide +kernel
theorem dX2_add_16 : decode cX2_add 16 = .ok (.iload_n 1, 1) := by decide +kernel
theorem dX2_add_17 : decode cX2_add 17 = .ok (.if_icmp .ge 23, 3) := by decide +kernel
theorem dX2_add_20 : decode cX2_add 20 = .ok (.aload_n 0, 1) := by decide +kernel
theorem dX2_add_21 : decode cX2_add 21 = .ok (.getfield 20, 3) := by decide +kernel
theorem dX2_add_24 : decode cX2_add 24 = .ok (.aload_n 0, 1) := by decide +kernel
theorem dX2_add_25 : decode cX2_add 25 = .ok (.getfield 39, 3) := by decide +kernel
theorem dX2_add_28 : decode cX2_add 28 = .ok (.invokevirtual 99, 3) := by decide +kernel
theorem dX2_add_31 : decode cX2_add 31 = .ok (.invokevirtual 139, 3) := by decide +kernel
theorem dX2_add_34 : decode cX2_add 34 = .ok (.iinc 2 1, 3) := by decide +kernel
theorem dX2_add_37 : decode cX2_add 37 = .ok (.goto (-22), 3) := by decide +kernel
theorem dX2_add_40 : decode cX2_add 40 = .ok (.iconst 1, 1) := by decide +kernel
theorem dX2_add_41 : decode cX2_add 41 = .ok (.ireturn, 1) := by decide +kernel
set_option maxRecDepth 20000 in
theorem ggX2_run_X5_nextByte : GoodIn wsX2_run wsX5_nextByte := goodIn_r _ [7, 8, 9, 10, 31, 32, 33, 34, 35] (by decide +kernel) (by decide +kernel)
set_option maxRecDepth 20000 in
theorem gX2_run_X5_nextByte : GoodIn wsX2_run (wsV RX2 99 RX5 yX5_nextByte wsX5_nextByte) := goodIn_app (goodIn_of _ (by decide +kernel)) ggX2_run_X5_nextByte
set_option maxRecDepth 20000 in
theorem ggX2_run_X6_append : GoodIn wsX2_run wsX6_append := goodIn_r _ [15, 16, 17, 34, 35] (by decide +kernel) (by decide +kernel)
set_option maxRecDepth 20000 in
theorem gX2_run_X6_append : GoodIn wsX2_run (wsV RX2 139 RX6 yX6_append wsX6_append) := goodIn_app (goodIn_of _ (by decide +kernel)) ggX2_run_X6_append
theorem dX2_run_0 : decode cX2_run 0 = .ok (.aload_n 0, 1) := by decide +kernel
theorem dX2_run_1 : decode cX2_run 1 = .ok (.getfield 39, 3) := by decide +kernel
theorem dX2_run_4 : decode cX2_run 4 = .ok (.invokevirtual 99, 3) := by decide +kernel
theorem dX2_run_7 : decode cX2_run 7 = .ok (.istore_n 2, 1) := by decide +kernel
theorem dX2_run_8 : decode cX2_run 8 = .ok (.iload_n 2, 1) := by decide +kernel
theorem dX2_run_9 : decode cX2_run 9 = .ok (.iconst (-1), 1) := by decide +kernel
theorem dX2_run_10 : decode cX2_run 10 = .ok (.if_icmp .ne 5, 3) := by decide +kernel
theorem dX2_run_13 : decode cX2_run 13 = .ok (.iconst 0, 1) := by decide +kernel
theorem dX2_run_14 : decode cX2_run 14 = .ok (.ireturn, 1) := by decide +kernel
theorem dX2_run_15 : decode cX2_run 15 = .ok (.iconst 0, 1) := by decide +kernel
theorem dX2_run_16 : decode cX2_run 16 = .ok (.istore_n 3, 1) := by decide +kernel
theorem dX2_run_17 : decode cX2_run 17 = .ok (.iload_n 3, 1) := by decide +kernel
theorem dX2_run_18 : decode cX2_run 18 = .ok (.iload_n 1, 1) := by decide +kernel
theorem dX2_run_19 : decode cX2_run 19 = .ok (.if_icmp .ge 17, 3) := by decide +kernel
theorem dX2_run_22 : decode cX2_run 22 = .ok (.aload_n 0, 1) := by decide +kernel
theorem dX2_run_23 : decode cX2_run 23 = .ok (.getfield 20, 3) := by decide +kernel
theorem dX2_run_26 : decode cX2_run 26 = .ok (.iload_n 2, 1) := by decide +kernel
theorem dX2_run_27 : decode cX2_run 27 = .ok (.invokevirtual 139, 3) := by decide +kernel
theorem dX2_run_30 : decode cX2_run 30 = .ok (.iinc 3 1, 3) := by decide +kernel
theorem dX2_run_33 : decode cX2_run 33 = .ok (.goto (-16), 3) := by decide +kernel
theorem dX2_run_36 : decode cX2_run 36 = .ok (.iconst 1, 1) := by decide +kernel
theorem dX2_run_37 : decode cX2_run 37 = .ok (.ireturn, 1) := by decide +kernel
set_option maxRecDepth 20000 in
theorem ggX2_copy_X2_here : GoodIn wsX2_copy wsX2_here := goodIn_r _ [7, 8, 1, 9, 10, 11, 12, 13, 14, 15, 43, 44, 45, 46, 47, 48, 49, 50, 51, 52, 53, 54, 55, 56, 57] (by decide +kernel) (by decide +kernel)
set_option maxRecDepth 20000 in
theorem gX2_copy_X2_here : GoodIn wsX2_copy (wsV RX2 142 RX2 yX2_here wsX2_here) := goodIn_app (goodIn_of _ (by decide +kernel)) ggX2_copy_X2_here
set_option maxRecDepth 20000 in
theorem ggX2_copy_X2_stringAt : GoodIn wsX2_copy wsX2_stringAt := goodIn_r _ [19, 8, 20, 21, 1, 9, 22, 23, 24, 13, 25, 15, 26, 43, 44, 45, 46, 47, 48, 49, 50, 51, 52, 53, 54, 55, 56, 57] (by decide +kernel) (by decide +kernel)
set_option maxRecDepth 20000 in
theorem gX2_copy_X2_stringAt : GoodIn wsX2_copy (wsV RX2 145 RX2 yX2_stringAt wsX2_stringAt) := goodIn_app (goodIn_of _ (by decide +kernel)) ggX2_copy_X2_stringAt
set_option maxRecDepth 20000 in
theorem ggX2_copy_X6_append : GoodIn wsX2_copy wsX6_append := goodIn_r _ [30, 15, 26, 56, 57] (by decide +kernel) (by decide +kernel)
set_option maxRecDepth 20000 in
theorem gX2_copy_X6_append : GoodIn wsX2_copy (wsV RX2 139 RX6 yX6_append wsX6_append) := goodIn_app (goodIn_of _ (by decide +kernel)) ggX2_copy_X6_append
set_option maxRecDepth 20000 in
theorem ggX2_copy_X0_learn : GoodIn wsX2_copy wsX0_learn := goodIn_r _ [35, 36, 37, 38, 39, 40, 41, 42, 58, 59, 60] (by decide +kernel) (by decide +kernel)
set_option maxRecDepth 20000 in
theorem gX2_copy_X0_learn : GoodIn wsX2_copy (wsV RX2 148 RX0 yX0_learn wsX0_learn) := goodIn_app (goodIn_of _ (by decide +kernel)) ggX2_copy_X0_learn
theorem dX2_copy_0 : decode cX2_copy 0 = .ok (.lload_n 2, 1) := by decide +kernel
theorem dX2_copy_1 : decode cX2_copy 1 = .ok (.lconst 0, 1) := by decide +kernel
theorem dX2_copy_2 : decode cX2_copy 2 = .ok (.lcmp, 1) := by decide +kernel
theorem dX2_copy_3 : decode cX2_copy 3 = .ok (.ifCond .lt 13, 3) := by decide +kernel
theorem dX2_copy_6 : decode cX2_copy 6 = .ok (.lload_n 2, 1) := by decide +kernel
theorem dX2_copy_7 : decode cX2_copy 7 = .ok (.aload_n 0, 1) := by decide +kernel
theorem dX2_copy_8 : decode cX2_copy 8 = .ok (.invokevirtual 142, 3) := by decide +kernel
theorem dX2_copy_11 : decode cX2_copy 11 = .ok (.i2l, 1) := by decide +kernel
theorem dX2_copy_12 : decode cX2_copy 12 = .ok (.lcmp, 1) := by decide +kernel
theorem dX2_copy_13 : decode cX2_copy 13 = .ok (.ifCond .lt 5, 3) := by decide +kernel
theorem dX2_copy_16 : decode cX2_copy 16 = .ok (.iconst 0, 1) := by decide +kernel
theorem dX2_copy_17 : decode cX2_copy 17 = .ok (.ireturn, 1) := by decide +kernel
theorem dX2_copy_18 : decode cX2_copy 18 = .ok (.iconst 0, 1) := by decide +kernel
theorem dX2_copy_19 : decode cX2_copy 19 = .ok (.istore 4, 2) := by decide +kernel
theorem dX2_copy_21 : decode cX2_copy 21 = .ok (.iload 4, 2) := by decide +kernel
theorem dX2_copy_23 : decode cX2_copy 23 = .ok (.iload_n 1, 1) := by decide +kernel
theorem dX2_copy_24 : decode cX2_copy 24 = .ok (.if_icmp .ge 25, 3) := by decide +kernel
theorem dX2_copy_27 : decode cX2_copy 27 = .ok (.aload_n 0, 1) := by decide +kernel
theorem dX2_copy_28 : decode cX2_copy 28 = .ok (.getfield 20, 3) := by decide +kernel
theorem dX2_copy_31 : decode cX2_copy 31 = .ok (.aload_n 0, 1) := by decide +kernel
theorem dX2_copy_32 : decode cX2_copy 32 = .ok (.lload_n 2, 1) := by decide +kernel
theorem dX2_copy_33 : decode cX2_copy 33 = .ok (.l2i, 1) := by decide +kernel
theorem dX2_copy_34 : decode cX2_copy 34 = .ok (.iload 4, 2) := by decide +kernel
theorem dX2_copy_36 : decode cX2_copy 36 = .ok (.iadd, 1) := by decide +kernel
theorem dX2_copy_37 : decode cX2_copy 37 = .ok (.invokevirtual 145, 3) := by decide +kernel
theorem dX2_copy_40 : decode cX2_copy 40 = .ok (.invokevirtual 139, 3) := by decide +kernel
theorem dX2_copy_43 : decode cX2_copy 43 = .ok (.iinc 4 1, 3) := by decide +kernel
theorem dX2_copy_46 : decode cX2_copy 46 = .ok (.goto (-25), 3) := by decide +kernel
theorem dX2_copy_49 : decode cX2_copy 49 = .ok (.aload_n 0, 1) := by decide +kernel
theorem dX2_copy_50 : decode cX2_copy 50 = .ok (.getfield 26, 3) := by decide +kernel
theorem dX2_copy_53 : decode cX2_copy 53 = .ok (.lload_n 2, 1) := by decide +kernel
theorem dX2_copy_54 : decode cX2_copy 54 = .ok (.l2i, 1) := by decide +kernel
theorem dX2_copy_55 : decode cX2_copy 55 = .ok (.invokevirtual 148, 3) := by decide +kernel
theorem dX2_copy_58 : decode cX2_copy 58 = .ok (.iconst 1, 1) := by decide +kernel
theorem dX2_copy_59 : decode cX2_copy 59 = .ok (.ireturn, 1) := by decide +kernel
set_option maxRecDepth 20000 in
theorem ggX2_here_X6_count : GoodIn wsX2_here wsX6_count := goodIn_r _ [8, 9, 23, 24] (by decide +kernel) (by decide +kernel)
set_option maxRecDepth 20000 in
theorem gX2_here_X6_count : GoodIn wsX2_here (wsV RX2 92 RX6 yX6_count wsX6_count) := goodIn_app (goodIn_of _ (by decide +kernel)) ggX2_here_X6_count
theorem dX2_here_0 : decode cX2_here 0 = .ok (.aload_n 0, 1) := by decide +kernel
theorem dX2_here_1 : decode cX2_here 1 = .ok (.getfield 58, 3) := by decide +kernel
theorem dX2_here_4 : decode cX2_here 4 = .ok (.aload_n 0, 1) := by decide +kernel
theorem dX2_here_5 : decode cX2_here 5 = .ok (.getfield 20, 3) := by decide +kernel
theorem dX2_here_8 : decode cX2_here 8 = .ok (.invokevirtual 92, 3) := by decide +kernel
theorem dX2_here_11 : decode cX2_here 11 = .ok (.iadd, 1) := by decide +kernel
theorem dX2_here_12 : decode cX2_here 12 = .ok (.aload_n 0, 1) := by decide +kernel
theorem dX2_here_13 : decode cX2_here 13 = .ok (.getfield 61, 3) := by decide +kernel
theorem dX2_here_16 : decode cX2_here 16 = .ok (.isub, 1) := by decide +kernel
theorem dX2_here_17 : decode cX2_here 17 = .ok (.ireturn, 1) := by decide +kernel
set_option maxRecDepth 20000 in
theorem ggX2_stringAt_X6_at : GoodIn wsX2_stringAt wsX6_at := goodIn_r _ [10, 11, 12, 26, 27] (by decide +kernel) (by decide +kernel)
set_option maxRecDepth 20000 in
theorem gX2_stringAt_X6_at : GoodIn wsX2_stringAt (wsV RX2 151 RX6 yX6_at wsX6_at) := goodIn_app (goodIn_of _ (by decide +kernel)) ggX2_stringAt_X6_at
theorem dX2_stringAt_0 : decode cX2_stringAt 0 = .ok (.iload_n 1, 1) := by decide +kernel
theorem dX2_stringAt_1 : decode cX2_stringAt 1 = .ok (.aload_n 0, 1) := by decide +kernel
theorem dX2_stringAt_2 : decode cX2_stringAt 2 = .ok (.getfield 58, 3) := by decide +kernel
theorem dX2_stringAt_5 : decode cX2_stringAt 5 = .ok (.if_icmp .ge 19, 3) := by decide +kernel
theorem dX2_stringAt_8 : decode cX2_stringAt 8 = .ok (.aload_n 0, 1) := by decide +kernel
theorem dX2_stringAt_9 : decode cX2_stringAt 9 = .ok (.getfield 52, 3) := by decide +kernel
theorem dX2_stringAt_12 : decode cX2_stringAt 12 = .ok (.aload_n 0, 1) := by decide +kernel
theorem dX2_stringAt_13 : decode cX2_stringAt 13 = .ok (.getfield 55, 3) := by decide +kernel
theorem dX2_stringAt_16 : decode cX2_stringAt 16 = .ok (.iload_n 1, 1) := by decide +kernel
theorem dX2_stringAt_17 : decode cX2_stringAt 17 = .ok (.iadd, 1) := by decide +kernel
theorem dX2_stringAt_18 : decode cX2_stringAt 18 = .ok (.invokevirtual 151, 3) := by decide +kernel
theorem dX2_stringAt_21 : decode cX2_stringAt 21 = .ok (.goto 21, 3) := by decide +kernel
theorem dX2_stringAt_24 : decode cX2_stringAt 24 = .ok (.aload_n 0, 1) := by decide +kernel
theorem dX2_stringAt_25 : decode cX2_stringAt 25 = .ok (.getfield 20, 3) := by decide +kernel
theorem dX2_stringAt_28 : decode cX2_stringAt 28 = .ok (.aload_n 0, 1) := by decide +kernel
theorem dX2_stringAt_29 : decode cX2_stringAt 29 = .ok (.getfield 61, 3) := by decide +kernel
theorem dX2_stringAt_32 : decode cX2_stringAt 32 = .ok (.iload_n 1, 1) := by decide +kernel
theorem dX2_stringAt_33 : decode cX2_stringAt 33 = .ok (.iadd, 1) := by decide +kernel
theorem dX2_stringAt_34 : decode cX2_stringAt 34 = .ok (.aload_n 0, 1) := by decide +kernel
theorem dX2_stringAt_35 : decode cX2_stringAt 35 = .ok (.getfield 58, 3) := by decide +kernel
theorem dX2_stringAt_38 : decode cX2_stringAt 38 = .ok (.isub, 1) := by decide +kernel
theorem dX2_stringAt_39 : decode cX2_stringAt 39 = .ok (.invokevirtual 151, 3) := by decide +kernel
theorem dX2_stringAt_42 : decode cX2_stringAt 42 = .ok (.ireturn, 1) := by decide +kernel
set_option maxRecDepth 20000 in
theorem ggX2_readAddress_X5_nextByte : GoodIn wsX2_readAddress wsX5_nextByte := goodIn_r _ [8, 9, 10, 11, 57, 58, 59, 60, 61] (by decide +kernel) (by decide +kernel)
set_option maxRecDepth 20000 in
theorem gX2_readAddress_X5_nextByte : GoodIn wsX2_readAddress (wsV RX2 99 RX5 yX5_nextByte wsX5_nextByte) := goodIn_app (goodIn_of _ (by decide +kernel)) ggX2_readAddress_X5_nextByte
set_option maxRecDepth 20000 in
theorem ggX2_readAddress_X0_same : GoodIn wsX2_readAddress wsX0_same := goodIn_r _ [16, 17, 62, 63, 64] (by decide +kernel) (by decide +kernel)
set_option maxRecDepth 20000 in
theorem gX2_readAddress_X0_same : GoodIn wsX2_readAddress (wsV RX2 156 RX0 yX0_same wsX0_same) := goodIn_app (goodIn_of _ (by decide +kernel)) ggX2_readAddress_X0_same
set_option maxRecDepth 20000 in
theorem ggX2_readAddress_X5_nextInteger : GoodIn wsX2_readAddress wsX5_nextInteger := goodIn_r _ [21, 22, 23, 24, 5, 6, 7, 8, 9, 10, 11, 57, 58, 59, 60, 61] (by decide +kernel) (by decide +kernel)
set_option maxRecDepth 20000 in
theorem gX2_readAddress_X5_nextInteger : GoodIn wsX2_readAddress (wsV RX2 105 RX5 yX5_nextInteger wsX5_nextInteger) := goodIn_app (goodIn_of _ (by decide +kernel)) ggX2_readAddress_X5_nextInteger
set_option maxRecDepth 20000 in
theorem ggX2_readAddress_X2_here : GoodIn wsX2_readAddress wsX2_here := goodIn_r _ [29, 30, 31, 32, 33, 34, 35, 36, 37, 38, 44, 45, 46, 47, 48, 49, 50, 51, 52, 53, 54, 55, 56, 60, 61] (by decide +kernel) (by decide +kernel)
set_option maxRecDepth 20000 in
theorem gX2_readAddress_X2_here : GoodIn wsX2_readAddress (wsV RX2 142 RX2 yX2_here wsX2_here) := goodIn_app (goodIn_of _ (by decide +kernel)) ggX2_readAddress_X2_here
set_option maxRecDepth 20000 in
theorem ggX2_readAddress_X0_addressFor : GoodIn wsX2_readAddress wsX0_addressFor := goodIn_r _ [42, 43, 62, 63, 64] (by decide +kernel) (by decide +kernel)
set_option maxRecDepth 20000 in
theorem gX2_readAddress_X0_addressFor : GoodIn wsX2_readAddress (wsV RX2 159 RX0 yX0_addressFor wsX0_addressFor) := goodIn_app (goodIn_of _ (by decide +kernel)) ggX2_readAddress_X0_addressFor
theorem dX2_readAddress_0 : decode cX2_readAddress 0 = .ok (.iload_n 1, 1) := by decide +kernel
theorem dX2_readAddress_1 : decode cX2_readAddress 1 = .ok (.bipush 6, 2) := by decide +kernel
theorem dX2_readAddress_3 : decode cX2_readAddress 3 = .ok (.if_icmp .lt 41, 3) := by decide +kernel
theorem dX2_readAddress_6 : decode cX2_readAddress 6 = .ok (.aload_n 0, 1) := by decide +kernel
theorem dX2_readAddress_7 : decode cX2_readAddress 7 = .ok (.getfield 45, 3) := by decide +kernel
theorem dX2_readAddress_10 : decode cX2_readAddress 10 = .ok (.invokevirtual 99, 3) := by decide +kernel
theorem dX2_readAddress_13 : decode cX2_readAddress 13 = .ok (.istore_n 2, 1) := by decide +kernel
theorem dX2_readAddress_14 : decode cX2_readAddress 14 = .ok (.iload_n 2, 1) := by decide +kernel
theorem dX2_readAddress_15 : decode cX2_readAddress 15 = .ok (.iconst (-1), 1) := by decide +kernel
theorem dX2_readAddress_16 : decode cX2_readAddress 16 = .ok (.if_icmp .ne 9, 3) := by decide +kernel
theorem dX2_readAddress_19 : decode cX2_readAddress 19 = .ok (.ldc2_w 154, 3) := by decide +kernel
theorem dX2_readAddress_22 : decode cX2_readAddress 22 = .ok (.goto 21, 3) := by decide +kernel
theorem dX2_readAddress_25 : decode cX2_readAddress 25 = .ok (.aload_n 0, 1) := by decide +kernel
theorem dX2_readAddress_26 : decode cX2_readAddress 26 = .ok (.getfield 26, 3) := by decide +kernel
theorem dX2_readAddress_29 : decode cX2_readAddress 29 = .ok (.sipush 256, 3) := by decide +kernel
theorem dX2_readAddress_32 : decode cX2_readAddress 32 = .ok (.iload_n 1, 1) := by decide +kernel
theorem dX2_readAddress_33 : decode cX2_readAddress 33 = .ok (.bipush 6, 2) := by decide +kernel
theorem dX2_readAddress_35 : decode cX2_readAddress 35 = .ok (.isub, 1) := by decide +kernel
theorem dX2_readAddress_36 : decode cX2_readAddress 36 = .ok (.imul, 1) := by decide +kernel
theorem dX2_readAddress_37 : decode cX2_readAddress 37 = .ok (.iload_n 2, 1) := by decide +kernel
theorem dX2_readAddress_38 : decode cX2_readAddress 38 = .ok (.iadd, 1) := by decide +kernel
theorem dX2_readAddress_39 : decode cX2_readAddress 39 = .ok (.invokevirtual 156, 3) := by decide +kernel
theorem dX2_readAddress_42 : decode cX2_readAddress 42 = .ok (.i2l, 1) := by decide +kernel
theorem dX2_readAddress_43 : decode cX2_readAddress 43 = .ok (.lreturn, 1) := by decide +kernel
theorem dX2_readAddress_44 : decode cX2_readAddress 44 = .ok (.aload_n 0, 1) := by decide +kernel
theorem dX2_readAddress_45 : decode cX2_readAddress 45 = .ok (.getfield 45, 3) := by decide +kernel
theorem dX2_readAddress_48 : decode cX2_readAddress 48 = .ok (.invokevirtual 105, 3) := by decide +kernel
theorem dX2_readAddress_51 : decode cX2_readAddress 51 = .ok (.istore_n 2, 1) := by decide +kernel
theorem dX2_readAddress_52 : decode cX2_readAddress 52 = .ok (.iload_n 2, 1) := by decide +kernel
theorem dX2_readAddress_53 : decode cX2_readAddress 53 = .ok (.iconst (-1), 1) := by decide +kernel
theorem dX2_readAddress_54 : decode cX2_readAddress 54 = .ok (.if_icmp .ne 9, 3) := by decide +kernel
theorem dX2_readAddress_57 : decode cX2_readAddress 57 = .ok (.ldc2_w 154, 3) := by decide +kernel
theorem dX2_readAddress_60 : decode cX2_readAddress 60 = .ok (.goto 16, 3) := by decide +kernel
theorem dX2_readAddress_63 : decode cX2_readAddress 63 = .ok (.aload_n 0, 1) := by decide +kernel
theorem dX2_readAddress_64 : decode cX2_readAddress 64 = .ok (.getfield 26, 3) := by decide +kernel
theorem dX2_readAddress_67 : decode cX2_readAddress 67 = .ok (.iload_n 1, 1) := by decide +kernel
theorem dX2_readAddress_68 : decode cX2_readAddress 68 = .ok (.iload_n 2, 1) := by decide +kernel
theorem dX2_readAddress_69 : decode cX2_readAddress 69 = .ok (.aload_n 0, 1) := by decide +kernel
theorem dX2_readAddress_70 : decode cX2_readAddress 70 = .ok (.invokevirtual 142, 3) := by decide +kernel
theorem dX2_readAddress_73 : decode cX2_readAddress 73 = .ok (.invokevirtual 159, 3) := by decide +kernel
theorem dX2_readAddress_76 : decode cX2_readAddress 76 = .ok (.lreturn, 1) := by decide +kernel
set_option maxRecDepth 20000 in
theorem ggX3_init_X0_init : GoodIn wsX3_init wsX0_init := goodIn_r _ [27, 28, 2, 3, 29, 30, 31, 32, 59, 60, 61] (by decide +kernel) (by decide +kernel)
set_option maxRecDepth 20000 in
theorem gX3_init_X0_init : GoodIn wsX3_init (wsX0_init) := ggX3_init_X0_init
set_option maxRecDepth 20000 in
theorem ggX3_init_X4_init : GoodIn wsX3_init wsX4_init := goodIn_r _ [35, 36, 2, 3, 29, 37, 38, 39, 40, 62, 63, 64, 65] (by decide +kernel) (by decide +kernel)
set_option maxRecDepth 20000 in
theorem gX3_init_X4_init : GoodIn wsX3_init (wsX4_init) := ggX3_init_X4_init
set_option maxRecDepth 20000 in
theorem ggX3_init_X6_init : GoodIn wsX3_init wsX6_init := goodIn_r _ [43, 44, 2, 3, 29, 45, 46, 66, 67] (by decide +kernel) (by decide +kernel)
set_option maxRecDepth 20000 in
theorem gX3_init_X6_init : GoodIn wsX3_init (wsX6_init) := ggX3_init_X6_init
theorem dX3_init_0 : decode cX3_init 0 = .ok (.aload_n 0, 1) := by decide +kernel
theorem dX3_init_1 : decode cX3_init 1 = .ok (.invokespecial 3, 3) := by decide +kernel
theorem dX3_init_4 : decode cX3_init 4 = .ok (.aload_n 0, 1) := by decide +kernel
theorem dX3_init_5 : decode cX3_init 5 = .ok (.aload_n 1, 1) := by decide +kernel
theorem dX3_init_6 : decode cX3_init 6 = .ok (.putfield 9, 3) := by decide +kernel
theorem dX3_init_9 : decode cX3_init 9 = .ok (.aload_n 0, 1) := by decide +kernel
theorem dX3_init_10 : decode cX3_init 10 = .ok (.aload_n 2, 1) := by decide +kernel
theorem dX3_init_11 : decode cX3_init 11 = .ok (.putfield 15, 3) := by decide +kernel
theorem dX3_init_14 : decode cX3_init 14 = .ok (.aload_n 0, 1) := by decide +kernel
theorem dX3_init_15 : decode cX3_init 15 = .ok (.aload_n 3, 1) := by decide +kernel
theorem dX3_init_16 : decode cX3_init 16 = .ok (.putfield 18, 3) := by decide +kernel
theorem dX3_init_19 : decode cX3_init 19 = .ok (.aload_n 0, 1) := by decide +kernel
theorem dX3_init_20 : decode cX3_init 20 = .ok (.new 21, 3) := by decide +kernel
theorem dX3_init_23 : decode cX3_init 23 = .ok (.dup, 1) := by decide +kernel
theorem dX3_init_24 : decode cX3_init 24 = .ok (.invokespecial 23, 3) := by decide +kernel
theorem dX3_init_27 : decode cX3_init 27 = .ok (.putfield 24, 3) := by decide +kernel
theorem dX3_init_30 : decode cX3_init 30 = .ok (.aload_n 0, 1) := by decide +kernel
theorem dX3_init_31 : decode cX3_init 31 = .ok (.new 28, 3) := by decide +kernel
theorem dX3_init_34 : decode cX3_init 34 = .ok (.dup, 1) := by decide +kernel
theorem dX3_init_35 : decode cX3_init 35 = .ok (.invokespecial 30, 3) := by decide +kernel
theorem dX3_init_38 : decode cX3_init 38 = .ok (.putfield 31, 3) := by decide +kernel
theorem dX3_init_41 : decode cX3_init 41 = .ok (.aload_n 0, 1) := by decide +kernel
theorem dX3_init_42 : decode cX3_init 42 = .ok (.new 35, 3) := by decide +kernel
theorem dX3_init_45 : decode cX3_init 45 = .ok (.dup, 1) := by decide +kernel
theorem dX3_init_46 : decode cX3_init 46 = .ok (.bipush 112, 2) := by decide +kernel
theorem dX3_init_48 : decode cX3_init 48 = .ok (.invokespecial 37, 3) := by decide +kernel
theorem dX3_init_51 : decode cX3_init 51 = .ok (.putfield 40, 3) := by decide +kernel
theorem dX3_init_54 : decode cX3_init 54 = .ok (.aload_n 0, 1) := by decide +kernel
theorem dX3_init_55 : decode cX3_init 55 = .ok (.new 35, 3) := by decide +kernel
theorem dX3_init_58 : decode cX3_init 58 = .ok (.dup, 1) := by decide +kernel
theorem dX3_init_59 : decode cX3_init 59 = .ok (.bipush 64, 2) := by decide +kernel
theorem dX3_init_61 : decode cX3_init 61 = .ok (.invokespecial 37, 3) := by decide +kernel
theorem dX3_init_64 : decode cX3_init 64 = .ok (.putfield 43, 3) := by decide +kernel
theorem dX3_init_67 : decode cX3_init 67 = .ok (.aload_n 0, 1) := by decide +kernel
theorem dX3_init_68 : decode cX3_init 68 = .ok (.new 35, 3) := by decide +kernel
theorem dX3_init_71 : decode cX3_init 71 = .ok (.dup, 1) := by decide +kernel
theorem dX3_init_72 : decode cX3_init 72 = .ok (.sipush 128, 3) := by decide +kernel
theorem dX3_init_75 : decode cX3_init 75 = .ok (.invokespecial 37, 3) := by decide +kernel
theorem dX3_init_78 : decode cX3_init 78 = .ok (.putfield 46, 3) := by decide +kernel
theorem dX3_init_81 : decode cX3_init 81 = .ok (.aload_n 0, 1) := by decide +kernel
theorem dX3_init_82 : decode cX3_init 82 = .ok (.new 35, 3) := by decide +kernel
theorem dX3_init_85 : decode cX3_init 85 = .ok (.dup, 1) := by decide +kernel
theorem dX3_init_86 : decode cX3_init 86 = .ok (.bipush 64, 2) := by decide +kernel
theorem dX3_init_88 : decode cX3_init 88 = .ok (.invokespecial 37, 3) := by decide +kernel
theorem dX3_init_91 : decode cX3_init 91 = .ok (.putfield 49, 3) := by decide +kernel
theorem dX3_init_94 : decode cX3_init 94 = .ok (.aload_n 0, 1) := by decide +kernel
theorem dX3_init_95 : decode cX3_init 95 = .ok (.new 35, 3) := by decide +kernel
theorem dX3_init_98 : decode cX3_init 98 = .ok (.dup, 1) := by decide +kernel
theorem dX3_init_99 : decode cX3_init 99 = .ok (.sipush 320, 3) := by decide +kernel
theorem dX3_init_102 : decode cX3_init 102 = .ok (.invokespecial 37, 3) := by decide +kernel
theorem dX3_init_105 : decode cX3_init 105 = .ok (.putfield 52, 3) := by decide +kernel
theorem dX3_init_108 : decode cX3_init 108 = .ok (.aload_n 0, 1) := by decide +kernel
theorem dX3_init_109 : decode cX3_init 109 = .ok (.iconst 0, 1) := by decide +kernel
theorem dX3_init_110 : decode cX3_init 110 = .ok (.putfield 55, 3) := by decide +kernel
theorem dX3_init_113 : decode cX3_init 113 = .ok (.aload_n 0, 1) := by decide +kernel
theorem dX3_init_114 : decode cX3_init 114 = .ok (.iconst 0, 1) := by decide +kernel
theorem dX3_init_115 : decode cX3_init 115 = .ok (.putfield 59, 3) := by decide +kernel
theorem dX3_init_118 : decode cX3_init 118 = .ok (.return_, 1) := by decide +kernel
set_option maxRecDepth 20000 in
theorem ggX3_writeDelta_X6_keep : GoodIn wsX3_writeDelta wsX6_keep := goodIn_r _ [15, 16, 188, 189] (by decide +kernel) (by decide +kernel)
set_option maxRecDepth 20000 in
theorem gX3_writeDelta_X6_keep : GoodIn wsX3_writeDelta (wsV RX3 62 RX6 yX6_keep wsX6_keep) := goodIn_app (goodIn_of _ (by decide +kernel)) ggX3_writeDelta_X6_keep
set_option maxRecDepth 20000 in
theorem ggX3_writeDelta_X6_append : GoodIn wsX3_writeDelta wsX6_append := goodIn_r _ [20, 16, 21, 188, 189] (by decide +kernel) (by decide +kernel)
set_option maxRecDepth 20000 in
theorem gX3_writeDelta_X6_append : GoodIn wsX3_writeDelta (wsV RX3 69 RX6 yX6_append wsX6_append) := goodIn_app (goodIn_of _ (by decide +kernel)) ggX3_writeDelta_X6_append
set_option maxRecDepth 20000 in
theorem ggX3_writeDelta_X0_clear : GoodIn wsX3_writeDelta wsX0_clear := goodIn_r _ [26, 27, 28, 29, 30, 31, 32, 33, 190, 191, 192] (by decide +kernel) (by decide +kernel)
set_option maxRecDepth 20000 in
theorem gX3_writeDelta_X0_clear : GoodIn wsX3_writeDelta (wsV RX3 72 RX0 yX0_clear wsX0_clear) := goodIn_app (goodIn_of _ (by decide +kernel)) ggX3_writeDelta_X0_clear
set_option maxRecDepth 20000 in
theorem ggX3_writeDelta_X6_count : GoodIn wsX3_writeDelta wsX6_count := goodIn_r _ [37, 16, 188, 189] (by decide +kernel) (by decide +kernel)
set_option maxRecDepth 20000 in
theorem gX3_writeDelta_X6_count : GoodIn wsX3_writeDelta (wsV RX3 75 RX6 yX6_count wsX6_count) := goodIn_app (goodIn_of _ (by decide +kernel)) ggX3_writeDelta_X6_count
set_option maxRecDepth 20000 in
theorem ggX3_writeDelta_X3_takePiece : GoodIn wsX3_writeDelta wsX3_takePiece := goodIn_r _ [42, 43, 44, 3, 2, 45, 46, 47, 48, 49, 50, 51, 52, 14, 53, 16, 54, 55, 56, 57, 21, 58, 18, 19, 20, 59, 60, 61, 62, 17, 22, 23, 24, 25, 26, 27, 28, 29, 30, 31, 32, 33, 63, 64, 65, 66, 67, 68, 11, 12, 13, 15, 176, 177, 178, 179, 180, 181, 182, 183, 184, 185, 186, 187, 188, 189, 190, 191, 192, 193, 194, 195, 196] (by decide +kernel) (by decide +kernel)
set_option maxRecDepth 20000 in
theorem gX3_writeDelta_X3_takePiece : GoodIn wsX3_writeDelta (wsV RX3 85 RX3 yX3_takePiece wsX3_takePiece) := goodIn_app (goodIn_of _ (by decide +kernel)) ggX3_writeDelta_X3_takePiece
set_option maxRecDepth 20000 in
theorem ggX3_writeDelta_X3_findInstructions : GoodIn wsX3_writeDelta wsX3_findInstructions := goodIn_r _ [72, 44, 43, 34, 35, 36, 14, 37, 16, 73, 74, 75, 41, 76, 77, 45, 46, 78, 79, 80, 81, 82, 59, 60, 61, 62, 21, 83, 84, 85, 86, 87, 88, 89, 66, 90, 68, 91, 92, 93, 17, 18, 19, 20, 94, 95, 96, 97, 2, 48, 98, 99, 100, 101, 102, 103, 104, 25, 105, 28, 106, 107, 108, 109, 110, 111, 112, 113, 27, 114, 115, 116, 117, 118, 58, 119, 120, 121, 122, 29, 123, 124, 125, 126, 127, 128, 176, 177, 178, 179, 180, 181, 182, 183, 184, 185, 186, 187, 188, 189, 193, 194, 195, 196, 190, 191, 192] (by decide +kernel) (by decide +kernel)
set_option maxRecDepth 20000 in
theorem gX3_writeDelta_X3_findInstructions : GoodIn wsX3_writeDelta (wsV RX3 89 RX3 yX3_findInstructions wsX3_findInstructions) := goodIn_app (goodIn_of _ (by decide +kernel)) ggX3_writeDelta_X3_findInstructions
set_option maxRecDepth 20000 in
theorem ggX3_writeDelta_X3_chooseCodes : GoodIn wsX3_writeDelta wsX3_chooseCodes := goodIn_r _ [132, 45, 47, 133, 134, 135, 66, 136, 68, 137, 138, 139, 140, 91, 92, 93, 141, 142, 143, 144, 145, 146, 147, 17, 18, 19, 14, 20, 16, 21, 148, 149, 150, 151, 152, 153, 154, 155, 156, 157, 158, 159, 160, 161, 162, 163, 164, 165, 166, 167, 168, 169, 170, 115, 116, 117, 118, 58, 176, 177, 178, 179, 180, 181, 182, 183, 184, 185, 186, 187, 193, 194, 195, 196, 188, 189] (by decide +kernel) (by decide +kernel)
set_option maxRecDepth 20000 in
theorem gX3_writeDelta_X3_chooseCodes : GoodIn wsX3_writeDelta (wsV RX3 92 RX3 yX3_chooseCodes wsX3_chooseCodes) := goodIn_app (goodIn_of _ (by decide +kernel)) ggX3_writeDelta_X3_chooseCodes
set_option maxRecDepth 20000 in
theorem ggX3_writeDelta_X3_writeWindow : GoodIn wsX3_writeDelta wsX3_writeWindow := goodIn_r _ [174, 44, 1, 49, 43, 46, 47, 48, 34, 35, 36, 14, 37, 16, 17, 18, 19, 20, 21, 115, 116, 117, 118, 58, 175, 55, 56, 57, 176, 177, 178, 179, 180, 181, 182, 183, 184, 185, 186, 187, 188, 189] (by decide +kernel) (by decide +kernel)
set_option maxRecDepth 20000 in
theorem gX3_writeDelta_X3_writeWindow : GoodIn wsX3_writeDelta (wsV RX3 95 RX3 yX3_writeWindow wsX3_writeWindow) := goodIn_app (goodIn_of _ (by decide +kernel)) ggX3_writeDelta_X3_writeWindow
theorem dX3_writeDelta_0 : decode cX3_writeDelta 0 = .ok (.aload_n 0, 1) := by decide +kernel
theorem dX3_writeDelta_1 : decode cX3_writeDelta 1 = .ok (.getfield 18, 3) := by decide +kernel
theorem dX3_writeDelta_4 : decode cX3_writeDelta 4 = .ok (.iconst 0, 1) := by decide +kernel
theorem dX3_writeDelta_5 : decode cX3_writeDelta 5 = .ok (.invokevirtual 62, 3) := by decide +kernel
theorem dX3_writeDelta_8 : decode cX3_writeDelta 8 = .ok (.getstatic 65, 3) := by decide +kernel
theorem dX3_writeDelta_11 : decode cX3_writeDelta 11 = .ok (.astore_n 2, 1) := by decide +kernel
theorem dX3_writeDelta_12 : decode cX3_writeDelta 12 = .ok (.aload_n 2, 1) := by decide +kernel
theorem dX3_writeDelta_13 : decode cX3_writeDelta 13 = .ok (.arraylength, 1) := by decide +kernel
theorem dX3_writeDelta_14 : decode cX3_writeDelta 14 = .ok (.istore_n 3, 1) := by decide +kernel
theorem dX3_writeDelta_15 : decode cX3_writeDelta 15 = .ok (.iconst 0, 1) := by decide +kernel
theorem dX3_writeDelta_16 : decode cX3_writeDelta 16 = .ok (.istore 4, 2) := by decide +kernel
theorem dX3_writeDelta_18 : decode cX3_writeDelta 18 = .ok (.iload 4, 2) := by decide +kernel
theorem dX3_writeDelta_20 : decode cX3_writeDelta 20 = .ok (.iload_n 3, 1) := by decide +kernel
theorem dX3_writeDelta_21 : decode cX3_writeDelta 21 = .ok (.if_icmp .ge 24, 3) := by decide +kernel
theorem dX3_writeDelta_24 : decode cX3_writeDelta 24 = .ok (.aload_n 2, 1) := by decide +kernel
theorem dX3_writeDelta_25 : decode cX3_writeDelta 25 = .ok (.iload 4, 2) := by decide +kernel
theorem dX3_writeDelta_27 : decode cX3_writeDelta 27 = .ok (.iaload, 1) := by decide +kernel
theorem dX3_writeDelta_28 : decode cX3_writeDelta 28 = .ok (.istore 5, 2) := by decide +kernel
theorem dX3_writeDelta_30 : decode cX3_writeDelta 30 = .ok (.aload_n 0, 1) := by decide +kernel
theorem dX3_writeDelta_31 : decode cX3_writeDelta 31 = .ok (.getfield 18, 3) := by decide +kernel
theorem dX3_writeDelta_34 : decode cX3_writeDelta 34 = .ok (.iload 5, 2) := by decide +kernel
theorem dX3_writeDelta_36 : decode cX3_writeDelta 36 = .ok (.invokevirtual 69, 3) := by decide +kernel
theorem dX3_writeDelta_39 : decode cX3_writeDelta 39 = .ok (.iinc 4 1, 3) := by decide +kernel
theorem dX3_writeDelta_42 : decode cX3_writeDelta 42 = .ok (.goto (-24), 3) := by decide +kernel
theorem dX3_writeDelta_45 : decode cX3_writeDelta 45 = .ok (.aload_n 0, 1) := by decide +kernel
theorem dX3_writeDelta_46 : decode cX3_writeDelta 46 = .ok (.getfield 24, 3) := by decide +kernel
theorem dX3_writeDelta_49 : decode cX3_writeDelta 49 = .ok (.invokevirtual 72, 3) := by decide +kernel
theorem dX3_writeDelta_52 : decode cX3_writeDelta 52 = .ok (.iconst 0, 1) := by decide +kernel
theorem dX3_writeDelta_53 : decode cX3_writeDelta 53 = .ok (.istore_n 2, 1) := by decide +kernel
theorem dX3_writeDelta_54 : decode cX3_writeDelta 54 = .ok (.iload_n 2, 1) := by decide +kernel
theorem dX3_writeDelta_55 : decode cX3_writeDelta 55 = .ok (.aload_n 0, 1) := by decide +kernel
theorem dX3_writeDelta_56 : decode cX3_writeDelta 56 = .ok (.getfield 15, 3) := by decide +kernel
theorem dX3_writeDelta_59 : decode cX3_writeDelta 59 = .ok (.invokevirtual 75, 3) := by decide +kernel
theorem dX3_writeDelta_62 : decode cX3_writeDelta 62 = .ok (.if_icmp .ge 44, 3) := by decide +kernel
theorem dX3_writeDelta_65 : decode cX3_writeDelta 65 = .ok (.aload_n 0, 1) := by decide +kernel
theorem dX3_writeDelta_66 : decode cX3_writeDelta 66 = .ok (.iload_n 2, 1) := by decide +kernel
theorem dX3_writeDelta_67 : decode cX3_writeDelta 67 = .ok (.iload_n 2, 1) := by decide +kernel
theorem dX3_writeDelta_68 : decode cX3_writeDelta 68 = .ok (.iload_n 1, 1) := by decide +kernel
theorem dX3_writeDelta_69 : decode cX3_writeDelta 69 = .ok (.iadd, 1) := by decide +kernel
theorem dX3_writeDelta_70 : decode cX3_writeDelta 70 = .ok (.aload_n 0, 1) := by decide +kernel
theorem dX3_writeDelta_71 : decode cX3_writeDelta 71 = .ok (.getfield 15, 3) := by decide +kernel
theorem dX3_writeDelta_74 : decode cX3_writeDelta 74 = .ok (.invokevirtual 75, 3) := by decide +kernel
theorem dX3_writeDelta_77 : decode cX3_writeDelta 77 = .ok (.invokestatic 79, 3) := by decide +kernel
theorem dX3_writeDelta_80 : decode cX3_writeDelta 80 = .ok (.invokevirtual 85, 3) := by decide +kernel
theorem dX3_writeDelta_83 : decode cX3_writeDelta 83 = .ok (.aload_n 0, 1) := by decide +kernel
theorem dX3_writeDelta_84 : decode cX3_writeDelta 84 = .ok (.invokevirtual 89, 3) := by decide +kernel
theorem dX3_writeDelta_87 : decode cX3_writeDelta 87 = .ok (.aload_n 0, 1) := by decide +kernel
theorem dX3_writeDelta_88 : decode cX3_writeDelta 88 = .ok (.invokevirtual 92, 3) := by decide +kernel
theorem dX3_writeDelta_91 : decode cX3_writeDelta 91 = .ok (.aload_n 0, 1) := by decide +kernel
theorem dX3_writeDelta_92 : decode cX3_writeDelta 92 = .ok (.invokevirtual 95, 3) := by decide +kernel
theorem dX3_writeDelta_95 : decode cX3_writeDelta 95 = .ok (.iload_n 2, 1) := by decide +kernel
theorem dX3_writeDelta_96 : decode cX3_writeDelta 96 = .ok (.iconst 1, 1) := by decide +kernel
theorem dX3_writeDelta_97 : decode cX3_writeDelta 97 = .ok (.iload_n 1, 1) := by decide +kernel
theorem dX3_writeDelta_98 : decode cX3_writeDelta 98 = .ok (.invokestatic 98, 3) := by decide +kernel
theorem dX3_writeDelta_101 : decode cX3_writeDelta 101 = .ok (.iadd, 1) := by decide +kernel
theorem dX3_writeDelta_102 : decode cX3_writeDelta 102 = .ok (.istore_n 2, 1) := by decide +kernel
theorem dX3_writeDelta_103 : decode cX3_writeDelta 103 = .ok (.goto (-49), 3) := by decide +kernel
theorem dX3_writeDelta_106 : decode cX3_writeDelta 106 = .ok (.return_, 1) := by decide +kernel
set_option maxRecDepth 20000 in
theorem ggX3_takePiece_X6_become : GoodIn wsX3_takePiece wsX6_become := goodIn_r _ [14, 15, 16, 17, 18, 13, 19, 20, 21, 22, 23, 24, 64, 65] (by decide +kernel) (by decide +kernel)
set_option maxRecDepth 20000 in
theorem gX3_takePiece_X6_become : GoodIn wsX3_takePiece (wsV RX3 101 RX6 yX6_become wsX6_become) := goodIn_app (goodIn_of _ (by decide +kernel)) ggX3_takePiece_X6_become
set_option maxRecDepth 20000 in
theorem ggX3_takePiece_X6_at : GoodIn wsX3_takePiece wsX6_at := goodIn_r _ [28, 15, 20, 64, 65] (by decide +kernel) (by decide +kernel)
set_option maxRecDepth 20000 in
theorem gX3_takePiece_X6_at : GoodIn wsX3_takePiece (wsV RX3 105 RX6 yX6_at wsX6_at) := goodIn_app (goodIn_of _ (by decide +kernel)) ggX3_takePiece_X6_at
set_option maxRecDepth 20000 in
theorem ggX3_takePiece_X6_append : GoodIn wsX3_takePiece wsX6_append := goodIn_r _ [24, 15, 20, 64, 65] (by decide +kernel) (by decide +kernel)
set_option maxRecDepth 20000 in
theorem gX3_takePiece_X6_append : GoodIn wsX3_takePiece (wsV RX3 69 RX6 yX6_append wsX6_append) := goodIn_app (goodIn_of _ (by decide +kernel)) ggX3_takePiece_X6_append
set_option maxRecDepth 20000 in
theorem ggX3_takePiece_X0_clear : GoodIn wsX3_takePiece wsX0_clear := goodIn_r _ [34, 35, 36, 37, 38, 39, 40, 41, 66, 67, 68] (by decide +kernel) (by decide +kernel)
set_option maxRecDepth 20000 in
theorem gX3_takePiece_X0_clear : GoodIn wsX3_takePiece (wsV RX3 72 RX0 yX0_clear wsX0_clear) := goodIn_app (goodIn_of _ (by decide +kernel)) ggX3_takePiece_X0_clear
set_option maxRecDepth 20000 in
theorem ggX3_takePiece_X4_clear : GoodIn wsX3_takePiece wsX4_clear := goodIn_r _ [46, 47, 69, 70, 71, 72] (by decide +kernel) (by decide +kernel)
set_option maxRecDepth 20000 in
theorem gX3_takePiece_X4_clear : GoodIn wsX3_takePiece (wsV RX3 109 RX4 yX4_clear wsX4_clear) := goodIn_app (goodIn_of _ (by decide +kernel)) ggX3_takePiece_X4_clear
set_option maxRecDepth 20000 in
theorem ggX3_takePiece_X6_keep : GoodIn wsX3_takePiece wsX6_keep := goodIn_r _ [51, 15, 64, 65] (by decide +kernel) (by decide +kernel)
set_option maxRecDepth 20000 in
theorem gX3_takePiece_X6_keep : GoodIn wsX3_takePiece (wsV RX3 62 RX6 yX6_keep wsX6_keep) := goodIn_app (goodIn_of _ (by decide +kernel)) ggX3_takePiece_X6_keep
theorem dX3_takePiece_0 : decode cX3_takePiece 0 = .ok (.aload_n 0, 1) := by decide +kernel
theorem dX3_takePiece_1 : decode cX3_takePiece 1 = .ok (.getfield 40, 3) := by decide +kernel
theorem dX3_takePiece_4 : decode cX3_takePiece 4 = .ok (.aload_n 0, 1) := by decide +kernel
theorem dX3_takePiece_5 : decode cX3_takePiece 5 = .ok (.getfield 9, 3) := by decide +kernel
theorem dX3_takePiece_8 : decode cX3_takePiece 8 = .ok (.invokevirtual 101, 3) := by decide +kernel
theorem dX3_takePiece_11 : decode cX3_takePiece 11 = .ok (.iload_n 1, 1) := by decide +kernel
theorem dX3_takePiece_12 : decode cX3_takePiece 12 = .ok (.istore_n 3, 1) := by decide +kernel
theorem dX3_takePiece_13 : decode cX3_takePiece 13 = .ok (.iload_n 3, 1) := by decide +kernel
theorem dX3_takePiece_14 : decode cX3_takePiece 14 = .ok (.iload_n 2, 1) := by decide +kernel
theorem dX3_takePiece_15 : decode cX3_takePiece 15 = .ok (.if_icmp .ge 24, 3) := by decide +kernel
theorem dX3_takePiece_18 : decode cX3_takePiece 18 = .ok (.aload_n 0, 1) := by decide +kernel
theorem dX3_takePiece_19 : decode cX3_takePiece 19 = .ok (.getfield 40, 3) := by decide +kernel
theorem dX3_takePiece_22 : decode cX3_takePiece 22 = .ok (.aload_n 0, 1) := by decide +kernel
theorem dX3_takePiece_23 : decode cX3_takePiece 23 = .ok (.getfield 15, 3) := by decide +kernel
theorem dX3_takePiece_26 : decode cX3_takePiece 26 = .ok (.iload_n 3, 1) := by decide +kernel
theorem dX3_takePiece_27 : decode cX3_takePiece 27 = .ok (.invokevirtual 105, 3) := by decide +kernel
theorem dX3_takePiece_30 : decode cX3_takePiece 30 = .ok (.invokevirtual 69, 3) := by decide +kernel
theorem dX3_takePiece_33 : decode cX3_takePiece 33 = .ok (.iinc 3 1, 3) := by decide +kernel
theorem dX3_takePiece_36 : decode cX3_takePiece 36 = .ok (.goto (-23), 3) := by decide +kernel
theorem dX3_takePiece_39 : decode cX3_takePiece 39 = .ok (.aload_n 0, 1) := by decide +kernel
theorem dX3_takePiece_40 : decode cX3_takePiece 40 = .ok (.getfield 24, 3) := by decide +kernel
theorem dX3_takePiece_43 : decode cX3_takePiece 43 = .ok (.invokevirtual 72, 3) := by decide +kernel
theorem dX3_takePiece_46 : decode cX3_takePiece 46 = .ok (.aload_n 0, 1) := by decide +kernel
theorem dX3_takePiece_47 : decode cX3_takePiece 47 = .ok (.getfield 31, 3) := by decide +kernel
theorem dX3_takePiece_50 : decode cX3_takePiece 50 = .ok (.invokevirtual 109, 3) := by decide +kernel
theorem dX3_takePiece_53 : decode cX3_takePiece 53 = .ok (.aload_n 0, 1) := by decide +kernel
theorem dX3_takePiece_54 : decode cX3_takePiece 54 = .ok (.getfield 43, 3) := by decide +kernel
theorem dX3_takePiece_57 : decode cX3_takePiece 57 = .ok (.iconst 0, 1) := by decide +kernel
theorem dX3_takePiece_58 : decode cX3_takePiece 58 = .ok (.invokevirtual 62, 3) := by decide +kernel
theorem dX3_takePiece_61 : decode cX3_takePiece 61 = .ok (.aload_n 0, 1) := by decide +kernel
theorem dX3_takePiece_62 : decode cX3_takePiece 62 = .ok (.getfield 46, 3) := by decide +kernel
theorem dX3_takePiece_65 : decode cX3_takePiece 65 = .ok (.iconst 0, 1) := by decide +kernel
theorem dX3_takePiece_66 : decode cX3_takePiece 66 = .ok (.invokevirtual 62, 3) := by decide +kernel
theorem dX3_takePiece_69 : decode cX3_takePiece 69 = .ok (.aload_n 0, 1) := by decide +kernel
theorem dX3_takePiece_70 : decode cX3_takePiece 70 = .ok (.getfield 49, 3) := by decide +kernel
theorem dX3_takePiece_73 : decode cX3_takePiece 73 = .ok (.iconst 0, 1) := by decide +kernel
theorem dX3_takePiece_74 : decode cX3_takePiece 74 = .ok (.invokevirtual 62, 3) := by decide +kernel
theorem dX3_takePiece_77 : decode cX3_takePiece 77 = .ok (.aload_n 0, 1) := by decide +kernel
theorem dX3_takePiece_78 : decode cX3_takePiece 78 = .ok (.getfield 52, 3) := by decide +kernel
theorem dX3_takePiece_81 : decode cX3_takePiece 81 = .ok (.iconst 0, 1) := by decide +kernel
theorem dX3_takePiece_82 : decode cX3_takePiece 82 = .ok (.invokevirtual 62, 3) := by decide +kernel
theorem dX3_takePiece_85 : decode cX3_takePiece 85 = .ok (.return_, 1) := by decide +kernel
set_option maxRecDepth 20000 in
theorem ggX3_findInstructions_X6_count : GoodIn wsX3_findInstructions wsX6_count := goodIn_r _ [7, 8, 98, 99] (by decide +kernel) (by decide +kernel)
set_option maxRecDepth 20000 in
theorem gX3_findInstructions_X6_count : GoodIn wsX3_findInstructions (wsV RX3 75 RX6 yX6_count wsX6_count) := goodIn_app (goodIn_of _ (by decide +kernel)) ggX3_findInstructions_X6_count
set_option maxRecDepth 20000 in
theorem ggX3_findInstructions_X3_findInstruction : GoodIn wsX3_findInstructions wsX3_findInstruction := goodIn_r _ [13, 14, 15, 16, 2, 17, 18, 19, 20, 12, 21, 3, 4, 5, 6, 7, 8, 22, 23, 24, 25, 26, 27, 28, 29, 30, 31, 32, 33, 34, 35, 36, 37, 38, 39, 40, 41, 42, 43, 44, 45, 46, 47, 48, 49, 50, 51, 52, 53, 54, 55, 56, 57, 58, 59, 60, 61, 62, 63, 64, 65, 66, 67, 68, 69, 70, 71, 72, 73, 74, 75, 76, 77, 78, 79, 80, 81, 82, 83, 84, 85, 86, 87, 88, 89, 90, 91, 92, 93, 94, 95, 96, 97, 98, 99, 100, 101, 102, 103, 104, 105, 106] (by decide +kernel) (by decide +kernel)
set_option maxRecDepth 20000 in
theorem gX3_findInstructions_X3_findInstruction : GoodIn wsX3_findInstructions (wsV RX3 110 RX3 yX3_findInstruction wsX3_findInstruction) := goodIn_app (goodIn_of _ (by decide +kernel)) ggX3_findInstructions_X3_findInstruction
theorem dX3_findInstructions_0 : decode cX3_findInstructions 0 = .ok (.aload_n 0, 1) := by decide +kernel
theorem dX3_findInstructions_1 : decode cX3_findInstructions 1 = .ok (.getfield 9, 3) := by decide +kernel
theorem dX3_findInstructions_4 : decode cX3_findInstructions 4 = .ok (.invokevirtual 75, 3) := by decide +kernel
theorem dX3_findInstructions_7 : decode cX3_findInstructions 7 = .ok (.istore_n 1, 1) := by decide +kernel
theorem dX3_findInstructions_8 : decode cX3_findInstructions 8 = .ok (.aload_n 0, 1) := by decide +kernel
theorem dX3_findInstructions_9 : decode cX3_findInstructions 9 = .ok (.getfield 9, 3) := by decide +kernel
theorem dX3_findInstructions_12 : decode cX3_findInstructions 12 = .ok (.invokevirtual 75, 3) := by decide +kernel
theorem dX3_findInstructions_15 : decode cX3_findInstructions 15 = .ok (.istore_n 2, 1) := by decide +kernel
theorem dX3_findInstructions_16 : decode cX3_findInstructions 16 = .ok (.iload_n 2, 1) := by decide +kernel
theorem dX3_findInstructions_17 : decode cX3_findInstructions 17 = .ok (.aload_n 0, 1) := by decide +kernel
theorem dX3_findInstructions_18 : decode cX3_findInstructions 18 = .ok (.getfield 40, 3) := by decide +kernel
theorem dX3_findInstructions_21 : decode cX3_findInstructions 21 = .ok (.invokevirtual 75, 3) := by decide +kernel
theorem dX3_findInstructions_24 : decode cX3_findInstructions 24 = .ok (.if_icmp .ge 22, 3) := by decide +kernel
theorem dX3_findInstructions_27 : decode cX3_findInstructions 27 = .ok (.iload_n 2, 1) := by decide +kernel
theorem dX3_findInstructions_28 : decode cX3_findInstructions 28 = .ok (.iload_n 1, 1) := by decide +kernel
theorem dX3_findInstructions_29 : decode cX3_findInstructions 29 = .ok (.if_icmp .ne 11, 3) := by decide +kernel
theorem dX3_findInstructions_32 : decode cX3_findInstructions 32 = .ok (.iload_n 1, 1) := by decide +kernel
theorem dX3_findInstructions_33 : decode cX3_findInstructions 33 = .ok (.aload_n 0, 1) := by decide +kernel
theorem dX3_findInstructions_34 : decode cX3_findInstructions 34 = .ok (.iload_n 2, 1) := by decide +kernel
theorem dX3_findInstructions_35 : decode cX3_findInstructions 35 = .ok (.invokevirtual 110, 3) := by decide +kernel
theorem dX3_findInstructions_38 : decode cX3_findInstructions 38 = .ok (.iadd, 1) := by decide +kernel
theorem dX3_findInstructions_39 : decode cX3_findInstructions 39 = .ok (.istore_n 1, 1) := by decide +kernel
theorem dX3_findInstructions_40 : decode cX3_findInstructions 40 = .ok (.iinc 2 1, 3) := by decide +kernel
theorem dX3_findInstructions_43 : decode cX3_findInstructions 43 = .ok (.goto (-27), 3) := by decide +kernel
theorem dX3_findInstructions_46 : decode cX3_findInstructions 46 = .ok (.return_, 1) := by decide +kernel
set_option maxRecDepth 20000 in
theorem ggX3_findInstruction_X3_sameBytes : GoodIn wsX3_findInstruction wsX3_sameBytes := goodIn_r _ [10, 4, 11, 12, 13, 14, 15, 16, 17, 18, 19, 20, 21, 81, 82, 83, 84, 85, 86, 87, 88, 89, 90, 91, 92, 93, 94] (by decide +kernel) (by decide +kernel)
set_option maxRecDepth 20000 in
theorem gX3_findInstruction_X3_sameBytes : GoodIn wsX3_findInstruction (wsV RX3 113 RX3 yX3_sameBytes wsX3_sameBytes) := goodIn_app (goodIn_of _ (by decide +kernel)) ggX3_findInstruction_X3_sameBytes
set_option maxRecDepth 20000 in
theorem ggX3_findInstruction_X3_findCopy : GoodIn wsX3_findInstruction wsX3_findCopy := goodIn_r _ [25, 1, 5, 4, 11, 12, 13, 14, 15, 16, 17, 18, 19, 20, 21, 81, 82, 83, 84, 85, 86, 87, 88, 89, 90, 91, 92, 93, 94] (by decide +kernel) (by decide +kernel)
set_option maxRecDepth 20000 in
theorem gX3_findInstruction_X3_findCopy : GoodIn wsX3_findInstruction (wsV RX3 116 RX3 yX3_findCopy wsX3_findCopy) := goodIn_app (goodIn_of _ (by decide +kernel)) ggX3_findInstruction_X3_findCopy
set_option maxRecDepth 20000 in
theorem ggX3_findInstruction_X4_append : GoodIn wsX3_findInstruction wsX4_append := goodIn_r _ [30, 31, 32, 33, 34, 95, 96, 97, 98] (by decide +kernel) (by decide +kernel)
set_option maxRecDepth 20000 in
theorem gX3_findInstruction_X4_append : GoodIn wsX3_findInstruction (wsV RX3 119 RX4 yX4_append wsX4_append) := goodIn_app (goodIn_of _ (by decide +kernel)) ggX3_findInstruction_X4_append
set_option maxRecDepth 20000 in
theorem ggX3_findInstruction_X6_at : GoodIn wsX3_findInstruction wsX6_at := goodIn_r _ [20, 16, 21, 93, 94] (by decide +kernel) (by decide +kernel)
end
section
set_option maxRecDepth 20000 in
theorem gX3_findInstruction_X6_at : GoodIn wsX3_findInstruction (wsV RX3 105 RX6 yX6_at wsX6_at) := goodIn_app (goodIn_of _ (by decide +kernel)) ggX3_findInstruction_X6_at
set_option maxRecDepth 20000 in
theorem ggX3_findInstruction_X6_append : GoodIn wsX3_findInstruction wsX6_append := goodIn_r _ [38, 16, 21, 93, 94] (by decide +kernel) (by decide +kernel)
set_option maxRecDepth 20000 in
theorem gX3_findInstruction_X6_append : GoodIn wsX3_findInstruction (wsV RX3 69 RX6 yX6_append wsX6_append) := goodIn_app (goodIn_of _ (by decide +kernel)) ggX3_findInstruction_X6_append
set_option maxRecDepth 20000 in
theorem ggX3_findInstruction_X3_writeAddress : GoodIn wsX3_findInstruction wsX3_writeAddress := goodIn_r _ [42, 43, 44, 45, 46, 47, 48, 49, 50, 51, 52, 53, 54, 35, 36, 37, 14, 38, 16, 21, 55, 56, 57, 58, 59, 60, 61, 62, 63, 64, 65, 66, 67, 68, 69, 70, 71, 72, 73, 74, 75, 81, 82, 83, 84, 85, 86, 87, 88, 89, 90, 91, 92, 99, 100, 101, 93, 94] (by decide +kernel) (by decide +kernel)
set_option maxRecDepth 20000 in
theorem gX3_findInstruction_X3_writeAddress : GoodIn wsX3_findInstruction (wsV RX3 122 RX3 yX3_writeAddress wsX3_writeAddress) := goodIn_app (goodIn_of _ (by decide +kernel)) ggX3_findInstruction_X3_writeAddress
set_option maxRecDepth 20000 in
theorem ggX3_findInstruction_X4_appendAddedByte : GoodIn wsX3_findInstruction wsX4_appendAddedByte := goodIn_r _ [79, 31, 32, 33, 80, 27, 28, 29, 30, 34, 95, 96, 97, 98] (by decide +kernel) (by decide +kernel)
set_option maxRecDepth 20000 in
theorem gX3_findInstruction_X4_appendAddedByte : GoodIn wsX3_findInstruction (wsV RX3 125 RX4 yX4_appendAddedByte wsX4_appendAddedByte) := goodIn_app (goodIn_of _ (by decide +kernel)) ggX3_findInstruction_X4_appendAddedByte
theorem dX3_findInstruction_0 : decode cX3_findInstruction 0 = .ok (.aload_n 0, 1) := by decide +kernel
theorem dX3_findInstruction_1 : decode cX3_findInstruction 1 = .ok (.iload_n 1, 1) := by decide +kernel
theorem dX3_findInstruction_2 : decode cX3_findInstruction 2 = .ok (.invokevirtual 113, 3) := by decide +kernel
theorem dX3_findInstruction_5 : decode cX3_findInstruction 5 = .ok (.istore_n 2, 1) := by decide +kernel
theorem dX3_findInstruction_6 : decode cX3_findInstruction 6 = .ok (.aload_n 0, 1) := by decide +kernel
theorem dX3_findInstruction_7 : decode cX3_findInstruction 7 = .ok (.iload_n 1, 1) := by decide +kernel
theorem dX3_findInstruction_8 : decode cX3_findInstruction 8 = .ok (.invokevirtual 116, 3) := by decide +kernel
theorem dX3_findInstruction_11 : decode cX3_findInstruction 11 = .ok (.iload_n 2, 1) := by decide +kernel
theorem dX3_findInstruction_12 : decode cX3_findInstruction 12 = .ok (.iconst 4, 1) := by decide +kernel
theorem dX3_findInstruction_13 : decode cX3_findInstruction 13 = .ok (.if_icmp .lt 38, 3) := by decide +kernel
theorem dX3_findInstruction_16 : decode cX3_findInstruction 16 = .ok (.iload_n 2, 1) := by decide +kernel
theorem dX3_findInstruction_17 : decode cX3_findInstruction 17 = .ok (.aload_n 0, 1) := by decide +kernel
theorem dX3_findInstruction_18 : decode cX3_findInstruction 18 = .ok (.getfield 55, 3) := by decide +kernel
theorem dX3_findInstruction_21 : decode cX3_findInstruction 21 = .ok (.if_icmp .lt 30, 3) := by decide +kernel
theorem dX3_findInstruction_24 : decode cX3_findInstruction 24 = .ok (.aload_n 0, 1) := by decide +kernel
theorem dX3_findInstruction_25 : decode cX3_findInstruction 25 = .ok (.getfield 31, 3) := by decide +kernel
theorem dX3_findInstruction_28 : decode cX3_findInstruction 28 = .ok (.iconst 2, 1) := by decide +kernel
theorem dX3_findInstruction_29 : decode cX3_findInstruction 29 = .ok (.iload_n 2, 1) := by decide +kernel
theorem dX3_findInstruction_30 : decode cX3_findInstruction 30 = .ok (.iconst 0, 1) := by decide +kernel
theorem dX3_findInstruction_31 : decode cX3_findInstruction 31 = .ok (.invokevirtual 119, 3) := by decide +kernel
theorem dX3_findInstruction_34 : decode cX3_findInstruction 34 = .ok (.aload_n 0, 1) := by decide +kernel
theorem dX3_findInstruction_35 : decode cX3_findInstruction 35 = .ok (.getfield 43, 3) := by decide +kernel
theorem dX3_findInstruction_38 : decode cX3_findInstruction 38 = .ok (.aload_n 0, 1) := by decide +kernel
theorem dX3_findInstruction_39 : decode cX3_findInstruction 39 = .ok (.getfield 40, 3) := by decide +kernel
theorem dX3_findInstruction_42 : decode cX3_findInstruction 42 = .ok (.iload_n 1, 1) := by decide +kernel
theorem dX3_findInstruction_43 : decode cX3_findInstruction 43 = .ok (.invokevirtual 105, 3) := by decide +kernel
theorem dX3_findInstruction_46 : decode cX3_findInstruction 46 = .ok (.invokevirtual 69, 3) := by decide +kernel
theorem dX3_findInstruction_49 : decode cX3_findInstruction 49 = .ok (.iload_n 2, 1) := by decide +kernel
theorem dX3_findInstruction_50 : decode cX3_findInstruction 50 = .ok (.ireturn, 1) := by decide +kernel
theorem dX3_findInstruction_51 : decode cX3_findInstruction 51 = .ok (.aload_n 0, 1) := by decide +kernel
theorem dX3_findInstruction_52 : decode cX3_findInstruction 52 = .ok (.getfield 55, 3) := by decide +kernel
theorem dX3_findInstruction_55 : decode cX3_findInstruction 55 = .ok (.iconst 4, 1) := by decide +kernel
theorem dX3_findInstruction_56 : decode cX3_findInstruction 56 = .ok (.if_icmp .lt 29, 3) := by decide +kernel
theorem dX3_findInstruction_59 : decode cX3_findInstruction 59 = .ok (.aload_n 0, 1) := by decide +kernel
theorem dX3_findInstruction_60 : decode cX3_findInstruction 60 = .ok (.getfield 31, 3) := by decide +kernel
theorem dX3_findInstruction_63 : decode cX3_findInstruction 63 = .ok (.iconst 3, 1) := by decide +kernel
theorem dX3_findInstruction_64 : decode cX3_findInstruction 64 = .ok (.aload_n 0, 1) := by decide +kernel
theorem dX3_findInstruction_65 : decode cX3_findInstruction 65 = .ok (.getfield 55, 3) := by decide +kernel
theorem dX3_findInstruction_68 : decode cX3_findInstruction 68 = .ok (.aload_n 0, 1) := by decide +kernel
theorem dX3_findInstruction_69 : decode cX3_findInstruction 69 = .ok (.aload_n 0, 1) := by decide +kernel
theorem dX3_findInstruction_70 : decode cX3_findInstruction 70 = .ok (.getfield 59, 3) := by decide +kernel
theorem dX3_findInstruction_73 : decode cX3_findInstruction 73 = .ok (.iload_n 1, 1) := by decide +kernel
theorem dX3_findInstruction_74 : decode cX3_findInstruction 74 = .ok (.invokevirtual 122, 3) := by decide +kernel
theorem dX3_findInstruction_77 : decode cX3_findInstruction 77 = .ok (.invokevirtual 119, 3) := by decide +kernel
theorem dX3_findInstruction_80 : decode cX3_findInstruction 80 = .ok (.aload_n 0, 1) := by decide +kernel
theorem dX3_findInstruction_81 : decode cX3_findInstruction 81 = .ok (.getfield 55, 3) := by decide +kernel
theorem dX3_findInstruction_84 : decode cX3_findInstruction 84 = .ok (.ireturn, 1) := by decide +kernel
theorem dX3_findInstruction_85 : decode cX3_findInstruction 85 = .ok (.aload_n 0, 1) := by decide +kernel
theorem dX3_findInstruction_86 : decode cX3_findInstruction 86 = .ok (.getfield 31, 3) := by decide +kernel
theorem dX3_findInstruction_89 : decode cX3_findInstruction 89 = .ok (.invokevirtual 125, 3) := by decide +kernel
theorem dX3_findInstruction_92 : decode cX3_findInstruction 92 = .ok (.aload_n 0, 1) := by decide +kernel
theorem dX3_findInstruction_93 : decode cX3_findInstruction 93 = .ok (.getfield 43, 3) := by decide +kernel
theorem dX3_findInstruction_96 : decode cX3_findInstruction 96 = .ok (.aload_n 0, 1) := by decide +kernel
theorem dX3_findInstruction_97 : decode cX3_findInstruction 97 = .ok (.getfield 40, 3) := by decide +kernel
theorem dX3_findInstruction_100 : decode cX3_findInstruction 100 = .ok (.iload_n 1, 1) := by decide +kernel
theorem dX3_findInstruction_101 : decode cX3_findInstruction 101 = .ok (.invokevirtual 105, 3) := by decide +kernel
theorem dX3_findInstruction_104 : decode cX3_findInstruction 104 = .ok (.invokevirtual 69, 3) := by decide +kernel
theorem dX3_findInstruction_107 : decode cX3_findInstruction 107 = .ok (.iconst 1, 1) := by decide +kernel
theorem dX3_findInstruction_108 : decode cX3_findInstruction 108 = .ok (.ireturn, 1) := by decide +kernel
set_option maxRecDepth 20000 in
theorem ggX3_sameBytes_X6_count : GoodIn wsX3_sameBytes wsX6_count := goodIn_r _ [6, 7, 25, 26] (by decide +kernel) (by decide +kernel)
set_option maxRecDepth 20000 in
theorem gX3_sameBytes_X6_count : GoodIn wsX3_sameBytes (wsV RX3 75 RX6 yX6_count wsX6_count) := goodIn_app (goodIn_of _ (by decide +kernel)) ggX3_sameBytes_X6_count
set_option maxRecDepth 20000 in
theorem ggX3_sameBytes_X6_at : GoodIn wsX3_sameBytes wsX6_at := goodIn_r _ [11, 7, 12, 25, 26] (by decide +kernel) (by decide +kernel)
set_option maxRecDepth 20000 in
theorem gX3_sameBytes_X6_at : GoodIn wsX3_sameBytes (wsV RX3 105 RX6 yX6_at wsX6_at) := goodIn_app (goodIn_of _ (by decide +kernel)) ggX3_sameBytes_X6_at
theorem dX3_sameBytes_0 : decode cX3_sameBytes 0 = .ok (.iconst 1, 1) := by decide +kernel
theorem dX3_sameBytes_1 : decode cX3_sameBytes 1 = .ok (.istore_n 2, 1) := by decide +kernel
theorem dX3_sameBytes_2 : decode cX3_sameBytes 2 = .ok (.iload_n 1, 1) := by decide +kernel
theorem dX3_sameBytes_3 : decode cX3_sameBytes 3 = .ok (.iload_n 2, 1) := by decide +kernel
theorem dX3_sameBytes_4 : decode cX3_sameBytes 4 = .ok (.iadd, 1) := by decide +kernel
theorem dX3_sameBytes_5 : decode cX3_sameBytes 5 = .ok (.aload_n 0, 1) := by decide +kernel
theorem dX3_sameBytes_6 : decode cX3_sameBytes 6 = .ok (.getfield 40, 3) := by decide +kernel
theorem dX3_sameBytes_9 : decode cX3_sameBytes 9 = .ok (.invokevirtual 75, 3) := by decide +kernel
theorem dX3_sameBytes_12 : decode cX3_sameBytes 12 = .ok (.if_icmp .ge 30, 3) := by decide +kernel
theorem dX3_sameBytes_15 : decode cX3_sameBytes 15 = .ok (.aload_n 0, 1) := by decide +kernel
theorem dX3_sameBytes_16 : decode cX3_sameBytes 16 = .ok (.getfield 40, 3) := by decide +kernel
theorem dX3_sameBytes_19 : decode cX3_sameBytes 19 = .ok (.iload_n 1, 1) := by decide +kernel
theorem dX3_sameBytes_20 : decode cX3_sameBytes 20 = .ok (.iload_n 2, 1) := by decide +kernel
theorem dX3_sameBytes_21 : decode cX3_sameBytes 21 = .ok (.iadd, 1) := by decide +kernel
theorem dX3_sameBytes_22 : decode cX3_sameBytes 22 = .ok (.invokevirtual 105, 3) := by decide +kernel
theorem dX3_sameBytes_25 : decode cX3_sameBytes 25 = .ok (.aload_n 0, 1) := by decide +kernel
theorem dX3_sameBytes_26 : decode cX3_sameBytes 26 = .ok (.getfield 40, 3) := by decide +kernel
theorem dX3_sameBytes_29 : decode cX3_sameBytes 29 = .ok (.iload_n 1, 1) := by decide +kernel
theorem dX3_sameBytes_30 : decode cX3_sameBytes 30 = .ok (.invokevirtual 105, 3) := by decide +kernel
theorem dX3_sameBytes_33 : decode cX3_sameBytes 33 = .ok (.if_icmp .ne 9, 3) := by decide +kernel
theorem dX3_sameBytes_36 : decode cX3_sameBytes 36 = .ok (.iinc 2 1, 3) := by decide +kernel
theorem dX3_sameBytes_39 : decode cX3_sameBytes 39 = .ok (.goto (-37), 3) := by decide +kernel
theorem dX3_sameBytes_42 : decode cX3_sameBytes 42 = .ok (.iload_n 2, 1) := by decide +kernel
theorem dX3_sameBytes_43 : decode cX3_sameBytes 43 = .ok (.ireturn, 1) := by decide +kernel
set_option maxRecDepth 20000 in
theorem ggX3_findCopy_X6_count : GoodIn wsX3_findCopy wsX6_count := goodIn_r _ [8, 9, 27, 28] (by decide +kernel) (by decide +kernel)
set_option maxRecDepth 20000 in
theorem gX3_findCopy_X6_count : GoodIn wsX3_findCopy (wsV RX3 75 RX6 yX6_count wsX6_count) := goodIn_app (goodIn_of _ (by decide +kernel)) ggX3_findCopy_X6_count
set_option maxRecDepth 20000 in
theorem ggX3_findCopy_X6_at : GoodIn wsX3_findCopy wsX6_at := goodIn_r _ [13, 9, 14, 27, 28] (by decide +kernel) (by decide +kernel)
set_option maxRecDepth 20000 in
theorem gX3_findCopy_X6_at : GoodIn wsX3_findCopy (wsV RX3 105 RX6 yX6_at wsX6_at) := goodIn_app (goodIn_of _ (by decide +kernel)) ggX3_findCopy_X6_at
theorem dX3_findCopy_0 : decode cX3_findCopy 0 = .ok (.aload_n 0, 1) := by decide +kernel
theorem dX3_findCopy_1 : decode cX3_findCopy 1 = .ok (.iconst 0, 1) := by decide +kernel
theorem dX3_findCopy_2 : decode cX3_findCopy 2 = .ok (.putfield 55, 3) := by decide +kernel
theorem dX3_findCopy_5 : decode cX3_findCopy 5 = .ok (.aload_n 0, 1) := by decide +kernel
theorem dX3_findCopy_6 : decode cX3_findCopy 6 = .ok (.iconst 0, 1) := by decide +kernel
theorem dX3_findCopy_7 : decode cX3_findCopy 7 = .ok (.putfield 59, 3) := by decide +kernel
theorem dX3_findCopy_10 : decode cX3_findCopy 10 = .ok (.iconst 0, 1) := by decide +kernel
theorem dX3_findCopy_11 : decode cX3_findCopy 11 = .ok (.istore_n 2, 1) := by decide +kernel
theorem dX3_findCopy_12 : decode cX3_findCopy 12 = .ok (.iload_n 2, 1) := by decide +kernel
theorem dX3_findCopy_13 : decode cX3_findCopy 13 = .ok (.iload_n 1, 1) := by decide +kernel
theorem dX3_findCopy_14 : decode cX3_findCopy 14 = .ok (.if_icmp .ge 71, 3) := by decide +kernel
theorem dX3_findCopy_17 : decode cX3_findCopy 17 = .ok (.iconst 0, 1) := by decide +kernel
theorem dX3_findCopy_18 : decode cX3_findCopy 18 = .ok (.istore_n 3, 1) := by decide +kernel
theorem dX3_findCopy_19 : decode cX3_findCopy 19 = .ok (.iload_n 1, 1) := by decide +kernel
theorem dX3_findCopy_20 : decode cX3_findCopy 20 = .ok (.iload_n 3, 1) := by decide +kernel
theorem dX3_findCopy_21 : decode cX3_findCopy 21 = .ok (.iadd, 1) := by decide +kernel
theorem dX3_findCopy_22 : decode cX3_findCopy 22 = .ok (.aload_n 0, 1) := by decide +kernel
theorem dX3_findCopy_23 : decode cX3_findCopy 23 = .ok (.getfield 40, 3) := by decide +kernel
theorem dX3_findCopy_26 : decode cX3_findCopy 26 = .ok (.invokevirtual 75, 3) := by decide +kernel
theorem dX3_findCopy_29 : decode cX3_findCopy 29 = .ok (.if_icmp .ge 32, 3) := by decide +kernel
theorem dX3_findCopy_32 : decode cX3_findCopy 32 = .ok (.aload_n 0, 1) := by decide +kernel
theorem dX3_findCopy_33 : decode cX3_findCopy 33 = .ok (.getfield 40, 3) := by decide +kernel
theorem dX3_findCopy_36 : decode cX3_findCopy 36 = .ok (.iload_n 2, 1) := by decide +kernel
theorem dX3_findCopy_37 : decode cX3_findCopy 37 = .ok (.iload_n 3, 1) := by decide +kernel
theorem dX3_findCopy_38 : decode cX3_findCopy 38 = .ok (.iadd, 1) := by decide +kernel
theorem dX3_findCopy_39 : decode cX3_findCopy 39 = .ok (.invokevirtual 105, 3) := by decide +kernel
theorem dX3_findCopy_42 : decode cX3_findCopy 42 = .ok (.aload_n 0, 1) := by decide +kernel
theorem dX3_findCopy_43 : decode cX3_findCopy 43 = .ok (.getfield 40, 3) := by decide +kernel
theorem dX3_findCopy_46 : decode cX3_findCopy 46 = .ok (.iload_n 1, 1) := by decide +kernel
theorem dX3_findCopy_47 : decode cX3_findCopy 47 = .ok (.iload_n 3, 1) := by decide +kernel
theorem dX3_findCopy_48 : decode cX3_findCopy 48 = .ok (.iadd, 1) := by decide +kernel
theorem dX3_findCopy_49 : decode cX3_findCopy 49 = .ok (.invokevirtual 105, 3) := by decide +kernel
theorem dX3_findCopy_52 : decode cX3_findCopy 52 = .ok (.if_icmp .ne 9, 3) := by decide +kernel
theorem dX3_findCopy_55 : decode cX3_findCopy 55 = .ok (.iinc 3 1, 3) := by decide +kernel
theorem dX3_findCopy_58 : decode cX3_findCopy 58 = .ok (.goto (-39), 3) := by decide +kernel
theorem dX3_findCopy_61 : decode cX3_findCopy 61 = .ok (.iload_n 3, 1) := by decide +kernel
theorem dX3_findCopy_62 : decode cX3_findCopy 62 = .ok (.aload_n 0, 1) := by decide +kernel
theorem dX3_findCopy_63 : decode cX3_findCopy 63 = .ok (.getfield 55, 3) := by decide +kernel
theorem dX3_findCopy_66 : decode cX3_findCopy 66 = .ok (.if_icmp .le 13, 3) := by decide +kernel
theorem dX3_findCopy_69 : decode cX3_findCopy 69 = .ok (.aload_n 0, 1) := by decide +kernel
theorem dX3_findCopy_70 : decode cX3_findCopy 70 = .ok (.iload_n 3, 1) := by decide +kernel
theorem dX3_findCopy_71 : decode cX3_findCopy 71 = .ok (.putfield 55, 3) := by decide +kernel
theorem dX3_findCopy_74 : decode cX3_findCopy 74 = .ok (.aload_n 0, 1) := by decide +kernel
theorem dX3_findCopy_75 : decode cX3_findCopy 75 = .ok (.iload_n 2, 1) := by decide +kernel
theorem dX3_findCopy_76 : decode cX3_findCopy 76 = .ok (.putfield 59, 3) := by decide +kernel
theorem dX3_findCopy_79 : decode cX3_findCopy 79 = .ok (.iinc 2 1, 3) := by decide +kernel
theorem dX3_findCopy_82 : decode cX3_findCopy 82 = .ok (.goto (-70), 3) := by decide +kernel
theorem dX3_findCopy_85 : decode cX3_findCopy 85 = .ok (.return_, 1) := by decide +kernel
set_option maxRecDepth 20000 in
theorem ggX3_writeAddress_J9_floorMod_7cf53 : GoodIn wsX3_writeAddress wsJ9_floorMod_7cf53 := goodIn_r _ [6] (by decide +kernel) (by decide +kernel)
set_option maxRecDepth 20000 in
theorem gX3_writeAddress_J9_floorMod_7cf53 : GoodIn wsX3_writeAddress (va_wsS RX3 128 yJ9_floorMod_7cf53 wsJ9_floorMod_7cf53) := goodIn_app (goodIn_of _ (by decide +kernel)) ggX3_writeAddress_J9_floorMod_7cf53
set_option maxRecDepth 20000 in
theorem ggX3_writeAddress_X0_same : GoodIn wsX3_writeAddress wsX0_same := goodIn_r _ [11, 12, 53, 54, 55] (by decide +kernel) (by decide +kernel)
set_option maxRecDepth 20000 in
theorem gX3_writeAddress_X0_same : GoodIn wsX3_writeAddress (wsV RX3 131 RX0 yX0_same wsX0_same) := goodIn_app (goodIn_of _ (by decide +kernel)) ggX3_writeAddress_X0_same
set_option maxRecDepth 20000 in
theorem ggX3_writeAddress_X6_append : GoodIn wsX3_writeAddress wsX6_append := goodIn_r _ [17, 18, 19, 56, 57] (by decide +kernel) (by decide +kernel)
set_option maxRecDepth 20000 in
theorem gX3_writeAddress_X6_append : GoodIn wsX3_writeAddress (wsV RX3 69 RX6 yX6_append wsX6_append) := goodIn_app (goodIn_of _ (by decide +kernel)) ggX3_writeAddress_X6_append
set_option maxRecDepth 20000 in
theorem ggX3_writeAddress_X0_leastMode : GoodIn wsX3_writeAddress wsX0_leastMode := goodIn_r _ [23, 24, 25, 26, 10, 27, 28, 53, 54, 55] (by decide +kernel) (by decide +kernel)
set_option maxRecDepth 20000 in
theorem gX3_writeAddress_X0_leastMode : GoodIn wsX3_writeAddress (wsV RX3 134 RX0 yX0_leastMode wsX0_leastMode) := goodIn_app (goodIn_of _ (by decide +kernel)) ggX3_writeAddress_X0_leastMode
set_option maxRecDepth 20000 in
theorem ggX3_writeAddress_X0_integerFor : GoodIn wsX3_writeAddress wsX0_integerFor := goodIn_r _ [27, 28, 53, 54, 55] (by decide +kernel) (by decide +kernel)
set_option maxRecDepth 20000 in
theorem gX3_writeAddress_X0_integerFor : GoodIn wsX3_writeAddress (wsV RX3 137 RX0 yX0_integerFor wsX0_integerFor) := goodIn_app (goodIn_of _ (by decide +kernel)) ggX3_writeAddress_X0_integerFor
set_option maxRecDepth 20000 in
theorem ggX3_writeAddress_X6_appendInteger : GoodIn wsX3_writeAddress wsX6_appendInteger := goodIn_r _ [33, 34, 14, 15, 16, 17, 18, 19, 56, 57] (by decide +kernel) (by decide +kernel)
set_option maxRecDepth 20000 in
theorem gX3_writeAddress_X6_appendInteger : GoodIn wsX3_writeAddress (wsV RX3 141 RX6 yX6_appendInteger wsX6_appendInteger) := goodIn_app (goodIn_of _ (by decide +kernel)) ggX3_writeAddress_X6_appendInteger
set_option maxRecDepth 20000 in
theorem ggX3_writeAddress_X0_learn : GoodIn wsX3_writeAddress wsX0_learn := goodIn_r _ [38, 28, 39, 12, 40, 4, 5, 6, 53, 54, 55] (by decide +kernel) (by decide +kernel)
set_option maxRecDepth 20000 in
theorem gX3_writeAddress_X0_learn : GoodIn wsX3_writeAddress (wsV RX3 144 RX0 yX0_learn wsX0_learn) := goodIn_app (goodIn_of _ (by decide +kernel)) ggX3_writeAddress_X0_learn
theorem dX3_writeAddress_0 : decode cX3_writeAddress 0 = .ok (.iload_n 1, 1) := by decide +kernel
theorem dX3_writeAddress_1 : decode cX3_writeAddress 1 = .ok (.sipush 768, 3) := by decide +kernel
theorem dX3_writeAddress_4 : decode cX3_writeAddress 4 = .ok (.invokestatic 128, 3) := by decide +kernel
theorem dX3_writeAddress_7 : decode cX3_writeAddress 7 = .ok (.istore_n 3, 1) := by decide +kernel
theorem dX3_writeAddress_8 : decode cX3_writeAddress 8 = .ok (.aload_n 0, 1) := by decide +kernel
theorem dX3_writeAddress_9 : decode cX3_writeAddress 9 = .ok (.getfield 24, 3) := by decide +kernel
theorem dX3_writeAddress_12 : decode cX3_writeAddress 12 = .ok (.iload_n 3, 1) := by decide +kernel
theorem dX3_writeAddress_13 : decode cX3_writeAddress 13 = .ok (.invokevirtual 131, 3) := by decide +kernel
theorem dX3_writeAddress_16 : decode cX3_writeAddress 16 = .ok (.iload_n 1, 1) := by decide +kernel
theorem dX3_writeAddress_17 : decode cX3_writeAddress 17 = .ok (.if_icmp .ne 28, 3) := by decide +kernel
theorem dX3_writeAddress_20 : decode cX3_writeAddress 20 = .ok (.bipush 6, 2) := by decide +kernel
theorem dX3_writeAddress_22 : decode cX3_writeAddress 22 = .ok (.iload_n 3, 1) := by decide +kernel
theorem dX3_writeAddress_23 : decode cX3_writeAddress 23 = .ok (.sipush 256, 3) := by decide +kernel
theorem dX3_writeAddress_26 : decode cX3_writeAddress 26 = .ok (.idiv, 1) := by decide +kernel
theorem dX3_writeAddress_27 : decode cX3_writeAddress 27 = .ok (.iadd, 1) := by decide +kernel
theorem dX3_writeAddress_28 : decode cX3_writeAddress 28 = .ok (.istore 4, 2) := by decide +kernel
theorem dX3_writeAddress_30 : decode cX3_writeAddress 30 = .ok (.aload_n 0, 1) := by decide +kernel
theorem dX3_writeAddress_31 : decode cX3_writeAddress 31 = .ok (.getfield 49, 3) := by decide +kernel
theorem dX3_writeAddress_34 : decode cX3_writeAddress 34 = .ok (.iload_n 3, 1) := by decide +kernel
theorem dX3_writeAddress_35 : decode cX3_writeAddress 35 = .ok (.sipush 256, 3) := by decide +kernel
theorem dX3_writeAddress_38 : decode cX3_writeAddress 38 = .ok (.irem, 1) := by decide +kernel
theorem dX3_writeAddress_39 : decode cX3_writeAddress 39 = .ok (.invokevirtual 69, 3) := by decide +kernel
theorem dX3_writeAddress_42 : decode cX3_writeAddress 42 = .ok (.goto 32, 3) := by decide +kernel
theorem dX3_writeAddress_45 : decode cX3_writeAddress 45 = .ok (.aload_n 0, 1) := by decide +kernel
theorem dX3_writeAddress_46 : decode cX3_writeAddress 46 = .ok (.getfield 24, 3) := by decide +kernel
theorem dX3_writeAddress_49 : decode cX3_writeAddress 49 = .ok (.iload_n 1, 1) := by decide +kernel
theorem dX3_writeAddress_50 : decode cX3_writeAddress 50 = .ok (.iload_n 2, 1) := by decide +kernel
theorem dX3_writeAddress_51 : decode cX3_writeAddress 51 = .ok (.invokevirtual 134, 3) := by decide +kernel
theorem dX3_writeAddress_54 : decode cX3_writeAddress 54 = .ok (.istore 4, 2) := by decide +kernel
theorem dX3_writeAddress_56 : decode cX3_writeAddress 56 = .ok (.aload_n 0, 1) := by decide +kernel
theorem dX3_writeAddress_57 : decode cX3_writeAddress 57 = .ok (.getfield 49, 3) := by decide +kernel
theorem dX3_writeAddress_60 : decode cX3_writeAddress 60 = .ok (.aload_n 0, 1) := by decide +kernel
theorem dX3_writeAddress_61 : decode cX3_writeAddress 61 = .ok (.getfield 24, 3) := by decide +kernel
theorem dX3_writeAddress_64 : decode cX3_writeAddress 64 = .ok (.iload 4, 2) := by decide +kernel
theorem dX3_writeAddress_66 : decode cX3_writeAddress 66 = .ok (.iload_n 1, 1) := by decide +kernel
theorem dX3_writeAddress_67 : decode cX3_writeAddress 67 = .ok (.iload_n 2, 1) := by decide +kernel
theorem dX3_writeAddress_68 : decode cX3_writeAddress 68 = .ok (.invokevirtual 137, 3) := by decide +kernel
theorem dX3_writeAddress_71 : decode cX3_writeAddress 71 = .ok (.invokevirtual 141, 3) := by decide +kernel
theorem dX3_writeAddress_74 : decode cX3_writeAddress 74 = .ok (.aload_n 0, 1) := by decide +kernel
theorem dX3_writeAddress_75 : decode cX3_writeAddress 75 = .ok (.getfield 24, 3) := by decide +kernel
theorem dX3_writeAddress_78 : decode cX3_writeAddress 78 = .ok (.iload_n 1, 1) := by decide +kernel
theorem dX3_writeAddress_79 : decode cX3_writeAddress 79 = .ok (.invokevirtual 144, 3) := by decide +kernel
theorem dX3_writeAddress_82 : decode cX3_writeAddress 82 = .ok (.iload 4, 2) := by decide +kernel
theorem dX3_writeAddress_84 : decode cX3_writeAddress 84 = .ok (.ireturn, 1) := by decide +kernel
set_option maxRecDepth 20000 in
theorem ggX3_chooseCodes_X4_count : GoodIn wsX3_chooseCodes wsX4_count := goodIn_r _ [7, 8, 70, 71, 72, 73] (by decide +kernel) (by decide +kernel)
set_option maxRecDepth 20000 in
theorem gX3_chooseCodes_X4_count : GoodIn wsX3_chooseCodes (wsV RX3 147 RX4 yX4_count wsX4_count) := goodIn_app (goodIn_of _ (by decide +kernel)) ggX3_chooseCodes_X4_count
set_option maxRecDepth 20000 in
theorem ggX3_chooseCodes_X4_pairCode : GoodIn wsX3_chooseCodes wsX4_pairCode := goodIn_r _ [12, 8, 13, 14, 15, 16, 17, 18, 19, 20, 21, 22, 70, 71, 72, 73] (by decide +kernel) (by decide +kernel)
set_option maxRecDepth 20000 in
theorem gX3_chooseCodes_X4_pairCode : GoodIn wsX3_chooseCodes (wsV RX3 148 RX4 yX4_pairCode wsX4_pairCode) := goodIn_app (goodIn_of _ (by decide +kernel)) ggX3_chooseCodes_X4_pairCode
set_option maxRecDepth 20000 in
theorem ggX3_chooseCodes_X6_append : GoodIn wsX3_chooseCodes wsX6_append := goodIn_r _ [27, 28, 29, 74, 75] (by decide +kernel) (by decide +kernel)
set_option maxRecDepth 20000 in
theorem gX3_chooseCodes_X6_append : GoodIn wsX3_chooseCodes (wsV RX3 69 RX6 yX6_append wsX6_append) := goodIn_app (goodIn_of _ (by decide +kernel)) ggX3_chooseCodes_X6_append
set_option maxRecDepth 20000 in
theorem ggX3_chooseCodes_X4_singleCode : GoodIn wsX3_chooseCodes wsX4_singleCode := goodIn_r _ [33, 8, 13, 14, 15, 34, 35, 18, 36, 70, 71, 72, 73] (by decide +kernel) (by decide +kernel)
set_option maxRecDepth 20000 in
theorem gX3_chooseCodes_X4_singleCode : GoodIn wsX3_chooseCodes (wsV RX3 151 RX4 yX4_singleCode wsX4_singleCode) := goodIn_app (goodIn_of _ (by decide +kernel)) ggX3_chooseCodes_X4_singleCode
set_option maxRecDepth 20000 in
theorem ggX3_chooseCodes_X1_partOf : GoodIn wsX3_chooseCodes wsX1_partOf := goodIn_r _ [39, 40, 41, 18, 42, 43, 44, 45, 46, 47, 48] (by decide +kernel) (by decide +kernel)
set_option maxRecDepth 20000 in
theorem gX3_chooseCodes_X1_partOf : GoodIn wsX3_chooseCodes (va_wsS RX3 154 yX1_partOf wsX1_partOf) := goodIn_app (goodIn_of _ (by decide +kernel)) ggX3_chooseCodes_X1_partOf
set_option maxRecDepth 20000 in
theorem ggX3_chooseCodes_X4_sizeOf : GoodIn wsX3_chooseCodes wsX4_sizeOf := goodIn_r _ [52, 8, 14, 70, 71, 72, 73] (by decide +kernel) (by decide +kernel)
set_option maxRecDepth 20000 in
theorem gX3_chooseCodes_X4_sizeOf : GoodIn wsX3_chooseCodes (wsV RX3 159 RX4 yX4_sizeOf wsX4_sizeOf) := goodIn_app (goodIn_of _ (by decide +kernel)) ggX3_chooseCodes_X4_sizeOf
set_option maxRecDepth 20000 in
theorem ggX3_chooseCodes_X6_appendInteger : GoodIn wsX3_chooseCodes wsX6_appendInteger := goodIn_r _ [56, 57, 24, 25, 26, 27, 28, 29, 74, 75] (by decide +kernel) (by decide +kernel)
set_option maxRecDepth 20000 in
theorem gX3_chooseCodes_X6_appendInteger : GoodIn wsX3_chooseCodes (wsV RX3 141 RX6 yX6_appendInteger wsX6_appendInteger) := goodIn_app (goodIn_of _ (by decide +kernel)) ggX3_chooseCodes_X6_appendInteger
theorem dX3_chooseCodes_0 : decode cX3_chooseCodes 0 = .ok (.iconst 0, 1) := by decide +kernel
theorem dX3_chooseCodes_1 : decode cX3_chooseCodes 1 = .ok (.istore_n 1, 1) := by decide +kernel
theorem dX3_chooseCodes_2 : decode cX3_chooseCodes 2 = .ok (.iload_n 1, 1) := by decide +kernel
theorem dX3_chooseCodes_3 : decode cX3_chooseCodes 3 = .ok (.aload_n 0, 1) := by decide +kernel
theorem dX3_chooseCodes_4 : decode cX3_chooseCodes 4 = .ok (.getfield 31, 3) := by decide +kernel
theorem dX3_chooseCodes_7 : decode cX3_chooseCodes 7 = .ok (.invokevirtual 147, 3) := by decide +kernel
theorem dX3_chooseCodes_10 : decode cX3_chooseCodes 10 = .ok (.if_icmp .ge 77, 3) := by decide +kernel
theorem dX3_chooseCodes_13 : decode cX3_chooseCodes 13 = .ok (.aload_n 0, 1) := by decide +kernel
theorem dX3_chooseCodes_14 : decode cX3_chooseCodes 14 = .ok (.getfield 31, 3) := by decide +kernel
theorem dX3_chooseCodes_17 : decode cX3_chooseCodes 17 = .ok (.iload_n 1, 1) := by decide +kernel
theorem dX3_chooseCodes_18 : decode cX3_chooseCodes 18 = .ok (.invokevirtual 148, 3) := by decide +kernel
theorem dX3_chooseCodes_21 : decode cX3_chooseCodes 21 = .ok (.istore_n 2, 1) := by decide +kernel
theorem dX3_chooseCodes_22 : decode cX3_chooseCodes 22 = .ok (.iload_n 2, 1) := by decide +kernel
theorem dX3_chooseCodes_23 : decode cX3_chooseCodes 23 = .ok (.iconst (-1), 1) := by decide +kernel
theorem dX3_chooseCodes_24 : decode cX3_chooseCodes 24 = .ok (.if_icmp .eq 17, 3) := by decide +kernel
theorem dX3_chooseCodes_27 : decode cX3_chooseCodes 27 = .ok (.aload_n 0, 1) := by decide +kernel
theorem dX3_chooseCodes_28 : decode cX3_chooseCodes 28 = .ok (.getfield 46, 3) := by decide +kernel
theorem dX3_chooseCodes_31 : decode cX3_chooseCodes 31 = .ok (.iload_n 2, 1) := by decide +kernel
theorem dX3_chooseCodes_32 : decode cX3_chooseCodes 32 = .ok (.invokevirtual 69, 3) := by decide +kernel
theorem dX3_chooseCodes_35 : decode cX3_chooseCodes 35 = .ok (.iinc 1 1, 3) := by decide +kernel
theorem dX3_chooseCodes_38 : decode cX3_chooseCodes 38 = .ok (.goto 43, 3) := by decide +kernel
theorem dX3_chooseCodes_41 : decode cX3_chooseCodes 41 = .ok (.aload_n 0, 1) := by decide +kernel
theorem dX3_chooseCodes_42 : decode cX3_chooseCodes 42 = .ok (.getfield 31, 3) := by decide +kernel
theorem dX3_chooseCodes_45 : decode cX3_chooseCodes 45 = .ok (.iload_n 1, 1) := by decide +kernel
theorem dX3_chooseCodes_46 : decode cX3_chooseCodes 46 = .ok (.invokevirtual 151, 3) := by decide +kernel
theorem dX3_chooseCodes_49 : decode cX3_chooseCodes 49 = .ok (.istore_n 3, 1) := by decide +kernel
theorem dX3_chooseCodes_50 : decode cX3_chooseCodes 50 = .ok (.aload_n 0, 1) := by decide +kernel
theorem dX3_chooseCodes_51 : decode cX3_chooseCodes 51 = .ok (.getfield 46, 3) := by decide +kernel
theorem dX3_chooseCodes_54 : decode cX3_chooseCodes 54 = .ok (.iload_n 3, 1) := by decide +kernel
theorem dX3_chooseCodes_55 : decode cX3_chooseCodes 55 = .ok (.invokevirtual 69, 3) := by decide +kernel
theorem dX3_chooseCodes_58 : decode cX3_chooseCodes 58 = .ok (.iload_n 3, 1) := by decide +kernel
theorem dX3_chooseCodes_59 : decode cX3_chooseCodes 59 = .ok (.iconst 1, 1) := by decide +kernel
theorem dX3_chooseCodes_60 : decode cX3_chooseCodes 60 = .ok (.invokestatic 154, 3) := by decide +kernel
theorem dX3_chooseCodes_63 : decode cX3_chooseCodes 63 = .ok (.ifCond .ne 18, 3) := by decide +kernel
theorem dX3_chooseCodes_66 : decode cX3_chooseCodes 66 = .ok (.aload_n 0, 1) := by decide +kernel
theorem dX3_chooseCodes_67 : decode cX3_chooseCodes 67 = .ok (.getfield 46, 3) := by decide +kernel
theorem dX3_chooseCodes_70 : decode cX3_chooseCodes 70 = .ok (.aload_n 0, 1) := by decide +kernel
theorem dX3_chooseCodes_71 : decode cX3_chooseCodes 71 = .ok (.getfield 31, 3) := by decide +kernel
theorem dX3_chooseCodes_74 : decode cX3_chooseCodes 74 = .ok (.iload_n 1, 1) := by decide +kernel
theorem dX3_chooseCodes_75 : decode cX3_chooseCodes 75 = .ok (.invokevirtual 159, 3) := by decide +kernel
theorem dX3_chooseCodes_78 : decode cX3_chooseCodes 78 = .ok (.invokevirtual 141, 3) := by decide +kernel
theorem dX3_chooseCodes_81 : decode cX3_chooseCodes 81 = .ok (.iinc 1 1, 3) := by decide +kernel
theorem dX3_chooseCodes_84 : decode cX3_chooseCodes 84 = .ok (.goto (-82), 3) := by decide +kernel
theorem dX3_chooseCodes_87 : decode cX3_chooseCodes 87 = .ok (.return_, 1) := by decide +kernel
set_option maxRecDepth 20000 in
theorem ggX3_writeWindow_X6_count : GoodIn wsX3_writeWindow wsX6_count := goodIn_r _ [12, 13, 40, 41] (by decide +kernel) (by decide +kernel)
set_option maxRecDepth 20000 in
theorem gX3_writeWindow_X6_count : GoodIn wsX3_writeWindow (wsV RX3 75 RX6 yX6_count wsX6_count) := goodIn_app (goodIn_of _ (by decide +kernel)) ggX3_writeWindow_X6_count
set_option maxRecDepth 20000 in
theorem ggX3_writeWindow_X6_append : GoodIn wsX3_writeWindow wsX6_append := goodIn_r _ [17, 13, 18, 40, 41] (by decide +kernel) (by decide +kernel)
set_option maxRecDepth 20000 in
theorem gX3_writeWindow_X6_append : GoodIn wsX3_writeWindow (wsV RX3 69 RX6 yX6_append wsX6_append) := goodIn_app (goodIn_of _ (by decide +kernel)) ggX3_writeWindow_X6_append
set_option maxRecDepth 20000 in
theorem ggX3_writeWindow_X6_appendInteger : GoodIn wsX3_writeWindow wsX6_appendInteger := goodIn_r _ [22, 23, 15, 16, 11, 17, 13, 18, 40, 41] (by decide +kernel) (by decide +kernel)
set_option maxRecDepth 20000 in
theorem gX3_writeWindow_X6_appendInteger : GoodIn wsX3_writeWindow (wsV RX3 141 RX6 yX6_appendInteger wsX6_appendInteger) := goodIn_app (goodIn_of _ (by decide +kernel)) ggX3_writeWindow_X6_appendInteger
set_option maxRecDepth 20000 in
theorem ggX3_writeWindow_X6_appendRow : GoodIn wsX3_writeWindow wsX6_appendRow := goodIn_r _ [27, 13, 18, 23, 15, 16, 11, 17, 40, 41] (by decide +kernel) (by decide +kernel)
set_option maxRecDepth 20000 in
theorem gX3_writeWindow_X6_appendRow : GoodIn wsX3_writeWindow (wsV RX3 162 RX6 yX6_appendRow wsX6_appendRow) := goodIn_app (goodIn_of _ (by decide +kernel)) ggX3_writeWindow_X6_appendRow
theorem dX3_writeWindow_0 : decode cX3_writeWindow 0 = .ok (.aload_n 0, 1) := by decide +kernel
theorem dX3_writeWindow_1 : decode cX3_writeWindow 1 = .ok (.getfield 9, 3) := by decide +kernel
theorem dX3_writeWindow_4 : decode cX3_writeWindow 4 = .ok (.invokevirtual 75, 3) := by decide +kernel
theorem dX3_writeWindow_7 : decode cX3_writeWindow 7 = .ok (.ifCond .ne 14, 3) := by decide +kernel
theorem dX3_writeWindow_10 : decode cX3_writeWindow 10 = .ok (.aload_n 0, 1) := by decide +kernel
theorem dX3_writeWindow_11 : decode cX3_writeWindow 11 = .ok (.getfield 18, 3) := by decide +kernel
theorem dX3_writeWindow_14 : decode cX3_writeWindow 14 = .ok (.iconst 0, 1) := by decide +kernel
theorem dX3_writeWindow_15 : decode cX3_writeWindow 15 = .ok (.invokevirtual 69, 3) := by decide +kernel
theorem dX3_writeWindow_18 : decode cX3_writeWindow 18 = .ok (.goto 33, 3) := by decide +kernel
theorem dX3_writeWindow_21 : decode cX3_writeWindow 21 = .ok (.aload_n 0, 1) := by decide +kernel
theorem dX3_writeWindow_22 : decode cX3_writeWindow 22 = .ok (.getfield 18, 3) := by decide +kernel
theorem dX3_writeWindow_25 : decode cX3_writeWindow 25 = .ok (.iconst 1, 1) := by decide +kernel
theorem dX3_writeWindow_26 : decode cX3_writeWindow 26 = .ok (.invokevirtual 69, 3) := by decide +kernel
theorem dX3_writeWindow_29 : decode cX3_writeWindow 29 = .ok (.aload_n 0, 1) := by decide +kernel
theorem dX3_writeWindow_30 : decode cX3_writeWindow 30 = .ok (.getfield 18, 3) := by decide +kernel
theorem dX3_writeWindow_33 : decode cX3_writeWindow 33 = .ok (.aload_n 0, 1) := by decide +kernel
theorem dX3_writeWindow_34 : decode cX3_writeWindow 34 = .ok (.getfield 9, 3) := by decide +kernel
theorem dX3_writeWindow_37 : decode cX3_writeWindow 37 = .ok (.invokevirtual 75, 3) := by decide +kernel
theorem dX3_writeWindow_40 : decode cX3_writeWindow 40 = .ok (.invokevirtual 141, 3) := by decide +kernel
theorem dX3_writeWindow_43 : decode cX3_writeWindow 43 = .ok (.aload_n 0, 1) := by decide +kernel
theorem dX3_writeWindow_44 : decode cX3_writeWindow 44 = .ok (.getfield 18, 3) := by decide +kernel
theorem dX3_writeWindow_47 : decode cX3_writeWindow 47 = .ok (.iconst 0, 1) := by decide +kernel
theorem dX3_writeWindow_48 : decode cX3_writeWindow 48 = .ok (.invokevirtual 141, 3) := by decide +kernel
theorem dX3_writeWindow_51 : decode cX3_writeWindow 51 = .ok (.aload_n 0, 1) := by decide +kernel
theorem dX3_writeWindow_52 : decode cX3_writeWindow 52 = .ok (.getfield 52, 3) := by decide +kernel
theorem dX3_writeWindow_55 : decode cX3_writeWindow 55 = .ok (.aload_n 0, 1) := by decide +kernel
theorem dX3_writeWindow_56 : decode cX3_writeWindow 56 = .ok (.getfield 40, 3) := by decide +kernel
theorem dX3_writeWindow_59 : decode cX3_writeWindow 59 = .ok (.invokevirtual 75, 3) := by decide +kernel
theorem dX3_writeWindow_62 : decode cX3_writeWindow 62 = .ok (.aload_n 0, 1) := by decide +kernel
theorem dX3_writeWindow_63 : decode cX3_writeWindow 63 = .ok (.getfield 9, 3) := by decide +kernel
theorem dX3_writeWindow_66 : decode cX3_writeWindow 66 = .ok (.invokevirtual 75, 3) := by decide +kernel
theorem dX3_writeWindow_69 : decode cX3_writeWindow 69 = .ok (.isub, 1) := by decide +kernel
theorem dX3_writeWindow_70 : decode cX3_writeWindow 70 = .ok (.invokevirtual 141, 3) := by decide +kernel
theorem dX3_writeWindow_73 : decode cX3_writeWindow 73 = .ok (.aload_n 0, 1) := by decide +kernel
theorem dX3_writeWindow_74 : decode cX3_writeWindow 74 = .ok (.getfield 52, 3) := by decide +kernel
theorem dX3_writeWindow_77 : decode cX3_writeWindow 77 = .ok (.iconst 0, 1) := by decide +kernel
theorem dX3_writeWindow_78 : decode cX3_writeWindow 78 = .ok (.invokevirtual 69, 3) := by decide +kernel
theorem dX3_writeWindow_81 : decode cX3_writeWindow 81 = .ok (.aload_n 0, 1) := by decide +kernel
theorem dX3_writeWindow_82 : decode cX3_writeWindow 82 = .ok (.getfield 52, 3) := by decide +kernel
theorem dX3_writeWindow_85 : decode cX3_writeWindow 85 = .ok (.aload_n 0, 1) := by decide +kernel
theorem dX3_writeWindow_86 : decode cX3_writeWindow 86 = .ok (.getfield 43, 3) := by decide +kernel
theorem dX3_writeWindow_89 : decode cX3_writeWindow 89 = .ok (.invokevirtual 75, 3) := by decide +kernel
theorem dX3_writeWindow_92 : decode cX3_writeWindow 92 = .ok (.invokevirtual 141, 3) := by decide +kernel
theorem dX3_writeWindow_95 : decode cX3_writeWindow 95 = .ok (.aload_n 0, 1) := by decide +kernel
theorem dX3_writeWindow_96 : decode cX3_writeWindow 96 = .ok (.getfield 52, 3) := by decide +kernel
theorem dX3_writeWindow_99 : decode cX3_writeWindow 99 = .ok (.aload_n 0, 1) := by decide +kernel
theorem dX3_writeWindow_100 : decode cX3_writeWindow 100 = .ok (.getfield 46, 3) := by decide +kernel
theorem dX3_writeWindow_103 : decode cX3_writeWindow 103 = .ok (.invokevirtual 75, 3) := by decide +kernel
theorem dX3_writeWindow_106 : decode cX3_writeWindow 106 = .ok (.invokevirtual 141, 3) := by decide +kernel
theorem dX3_writeWindow_109 : decode cX3_writeWindow 109 = .ok (.aload_n 0, 1) := by decide +kernel
theorem dX3_writeWindow_110 : decode cX3_writeWindow 110 = .ok (.getfield 52, 3) := by decide +kernel
theorem dX3_writeWindow_113 : decode cX3_writeWindow 113 = .ok (.aload_n 0, 1) := by decide +kernel
theorem dX3_writeWindow_114 : decode cX3_writeWindow 114 = .ok (.getfield 49, 3) := by decide +kernel
theorem dX3_writeWindow_117 : decode cX3_writeWindow 117 = .ok (.invokevirtual 75, 3) := by decide +kernel
theorem dX3_writeWindow_120 : decode cX3_writeWindow 120 = .ok (.invokevirtual 141, 3) := by decide +kernel
theorem dX3_writeWindow_123 : decode cX3_writeWindow 123 = .ok (.aload_n 0, 1) := by decide +kernel
theorem dX3_writeWindow_124 : decode cX3_writeWindow 124 = .ok (.getfield 52, 3) := by decide +kernel
theorem dX3_writeWindow_127 : decode cX3_writeWindow 127 = .ok (.aload_n 0, 1) := by decide +kernel
theorem dX3_writeWindow_128 : decode cX3_writeWindow 128 = .ok (.getfield 43, 3) := by decide +kernel
theorem dX3_writeWindow_131 : decode cX3_writeWindow 131 = .ok (.invokevirtual 162, 3) := by decide +kernel
theorem dX3_writeWindow_134 : decode cX3_writeWindow 134 = .ok (.aload_n 0, 1) := by decide +kernel
theorem dX3_writeWindow_135 : decode cX3_writeWindow 135 = .ok (.getfield 52, 3) := by decide +kernel
theorem dX3_writeWindow_138 : decode cX3_writeWindow 138 = .ok (.aload_n 0, 1) := by decide +kernel
theorem dX3_writeWindow_139 : decode cX3_writeWindow 139 = .ok (.getfield 46, 3) := by decide +kernel
theorem dX3_writeWindow_142 : decode cX3_writeWindow 142 = .ok (.invokevirtual 162, 3) := by decide +kernel
theorem dX3_writeWindow_145 : decode cX3_writeWindow 145 = .ok (.aload_n 0, 1) := by decide +kernel
theorem dX3_writeWindow_146 : decode cX3_writeWindow 146 = .ok (.getfield 52, 3) := by decide +kernel
theorem dX3_writeWindow_149 : decode cX3_writeWindow 149 = .ok (.aload_n 0, 1) := by decide +kernel
theorem dX3_writeWindow_150 : decode cX3_writeWindow 150 = .ok (.getfield 49, 3) := by decide +kernel
theorem dX3_writeWindow_153 : decode cX3_writeWindow 153 = .ok (.invokevirtual 162, 3) := by decide +kernel
theorem dX3_writeWindow_156 : decode cX3_writeWindow 156 = .ok (.aload_n 0, 1) := by decide +kernel
theorem dX3_writeWindow_157 : decode cX3_writeWindow 157 = .ok (.getfield 18, 3) := by decide +kernel
theorem dX3_writeWindow_160 : decode cX3_writeWindow 160 = .ok (.aload_n 0, 1) := by decide +kernel
theorem dX3_writeWindow_161 : decode cX3_writeWindow 161 = .ok (.getfield 52, 3) := by decide +kernel
theorem dX3_writeWindow_164 : decode cX3_writeWindow 164 = .ok (.invokevirtual 75, 3) := by decide +kernel
theorem dX3_writeWindow_167 : decode cX3_writeWindow 167 = .ok (.invokevirtual 141, 3) := by decide +kernel
theorem dX3_writeWindow_170 : decode cX3_writeWindow 170 = .ok (.aload_n 0, 1) := by decide +kernel
theorem dX3_writeWindow_171 : decode cX3_writeWindow 171 = .ok (.getfield 18, 3) := by decide +kernel
theorem dX3_writeWindow_174 : decode cX3_writeWindow 174 = .ok (.aload_n 0, 1) := by decide +kernel
theorem dX3_writeWindow_175 : decode cX3_writeWindow 175 = .ok (.getfield 52, 3) := by decide +kernel
theorem dX3_writeWindow_178 : decode cX3_writeWindow 178 = .ok (.invokevirtual 162, 3) := by decide +kernel
theorem dX3_writeWindow_181 : decode cX3_writeWindow 181 = .ok (.return_, 1) := by decide +kernel
theorem dX4_init_0 : decode cX4_init 0 = .ok (.aload_n 0, 1) := by decide +kernel
theorem dX4_init_1 : decode cX4_init 1 = .ok (.invokespecial 3, 3) := by decide +kernel
theorem dX4_init_4 : decode cX4_init 4 = .ok (.aload_n 0, 1) := by decide +kernel
theorem dX4_init_5 : decode cX4_init 5 = .ok (.bipush 64, 2) := by decide +kernel
theorem dX4_init_7 : decode cX4_init 7 = .ok (.newarray .int, 2) := by decide +kernel
theorem dX4_init_9 : decode cX4_init 9 = .ok (.putfield 9, 3) := by decide +kernel
theorem dX4_init_12 : decode cX4_init 12 = .ok (.aload_n 0, 1) := by decide +kernel
theorem dX4_init_13 : decode cX4_init 13 = .ok (.bipush 64, 2) := by decide +kernel
theorem dX4_init_15 : decode cX4_init 15 = .ok (.newarray .int, 2) := by decide +kernel
theorem dX4_init_17 : decode cX4_init 17 = .ok (.putfield 15, 3) := by decide +kernel
theorem dX4_init_20 : decode cX4_init 20 = .ok (.aload_n 0, 1) := by decide +kernel
theorem dX4_init_21 : decode cX4_init 21 = .ok (.bipush 64, 2) := by decide +kernel
theorem dX4_init_23 : decode cX4_init 23 = .ok (.newarray .int, 2) := by decide +kernel
theorem dX4_init_25 : decode cX4_init 25 = .ok (.putfield 18, 3) := by decide +kernel
theorem dX4_init_28 : decode cX4_init 28 = .ok (.aload_n 0, 1) := by decide +kernel
theorem dX4_init_29 : decode cX4_init 29 = .ok (.iconst 0, 1) := by decide +kernel
theorem dX4_init_30 : decode cX4_init 30 = .ok (.putfield 21, 3) := by decide +kernel
theorem dX4_init_33 : decode cX4_init 33 = .ok (.return_, 1) := by decide +kernel
theorem dX4_count_0 : decode cX4_count 0 = .ok (.aload_n 0, 1) := by decide +kernel
theorem dX4_count_1 : decode cX4_count 1 = .ok (.getfield 21, 3) := by decide +kernel
theorem dX4_count_4 : decode cX4_count 4 = .ok (.ireturn, 1) := by decide +kernel
theorem dX4_clear_0 : decode cX4_clear 0 = .ok (.aload_n 0, 1) := by decide +kernel
theorem dX4_clear_1 : decode cX4_clear 1 = .ok (.iconst 0, 1) := by decide +kernel
theorem dX4_clear_2 : decode cX4_clear 2 = .ok (.putfield 21, 3) := by decide +kernel
theorem dX4_clear_5 : decode cX4_clear 5 = .ok (.return_, 1) := by decide +kernel
theorem dX4_append_0 : decode cX4_append 0 = .ok (.aload_n 0, 1) := by decide +kernel
theorem dX4_append_1 : decode cX4_append 1 = .ok (.getfield 21, 3) := by decide +kernel
theorem dX4_append_4 : decode cX4_append 4 = .ok (.bipush 64, 2) := by decide +kernel
theorem dX4_append_6 : decode cX4_append 6 = .ok (.if_icmp .ge 43, 3) := by decide +kernel
theorem dX4_append_9 : decode cX4_append 9 = .ok (.aload_n 0, 1) := by decide +kernel
theorem dX4_append_10 : decode cX4_append 10 = .ok (.getfield 9, 3) := by decide +kernel
theorem dX4_append_13 : decode cX4_append 13 = .ok (.aload_n 0, 1) := by decide +kernel
theorem dX4_append_14 : decode cX4_append 14 = .ok (.getfield 21, 3) := by decide +kernel
theorem dX4_append_17 : decode cX4_append 17 = .ok (.iload_n 1, 1) := by decide +kernel
theorem dX4_append_18 : decode cX4_append 18 = .ok (.iastore, 1) := by decide +kernel
theorem dX4_append_19 : decode cX4_append 19 = .ok (.aload_n 0, 1) := by decide +kernel
theorem dX4_append_20 : decode cX4_append 20 = .ok (.getfield 15, 3) := by decide +kernel
theorem dX4_append_23 : decode cX4_append 23 = .ok (.aload_n 0, 1) := by decide +kernel
theorem dX4_append_24 : decode cX4_append 24 = .ok (.getfield 21, 3) := by decide +kernel
theorem dX4_append_27 : decode cX4_append 27 = .ok (.iload_n 2, 1) := by decide +kernel
theorem dX4_append_28 : decode cX4_append 28 = .ok (.iastore, 1) := by decide +kernel
theorem dX4_append_29 : decode cX4_append 29 = .ok (.aload_n 0, 1) := by decide +kernel
theorem dX4_append_30 : decode cX4_append 30 = .ok (.getfield 18, 3) := by decide +kernel
theorem dX4_append_33 : decode cX4_append 33 = .ok (.aload_n 0, 1) := by decide +kernel
theorem dX4_append_34 : decode cX4_append 34 = .ok (.getfield 21, 3) := by decide +kernel
theorem dX4_append_37 : decode cX4_append 37 = .ok (.iload_n 3, 1) := by decide +kernel
theorem dX4_append_38 : decode cX4_append 38 = .ok (.iastore, 1) := by decide +kernel
theorem dX4_append_39 : decode cX4_append 39 = .ok (.aload_n 0, 1) := by decide +kernel
theorem dX4_append_40 : decode cX4_append 40 = .ok (.dup, 1) := by decide +kernel
theorem dX4_append_41 : decode cX4_append 41 = .ok (.getfield 21, 3) := by decide +kernel
theorem dX4_append_44 : decode cX4_append 44 = .ok (.iconst 1, 1) := by decide +kernel
theorem dX4_append_45 : decode cX4_append 45 = .ok (.iadd, 1) := by decide +kernel
theorem dX4_append_46 : decode cX4_append 46 = .ok (.putfield 21, 3) := by decide +kernel
theorem dX4_append_49 : decode cX4_append 49 = .ok (.return_, 1) := by decide +kernel
set_option maxRecDepth 20000 in
theorem ggX4_appendAddedByte_X4_append : GoodIn wsX4_appendAddedByte wsX4_append := goodIn_r _ [8, 1, 2, 3, 9, 10, 11, 12, 13] (by decide +kernel) (by decide +kernel)
set_option maxRecDepth 20000 in
theorem gX4_appendAddedByte_X4_append : GoodIn wsX4_appendAddedByte (wsV RX4 25 RX4 yX4_append wsX4_append) := goodIn_app (goodIn_of _ (by decide +kernel)) ggX4_appendAddedByte_X4_append
theorem dX4_appendAddedByte_0 : decode cX4_appendAddedByte 0 = .ok (.aload_n 0, 1) := by decide +kernel
theorem dX4_appendAddedByte_1 : decode cX4_appendAddedByte 1 = .ok (.getfield 21, 3) := by decide +kernel
theorem dX4_appendAddedByte_4 : decode cX4_appendAddedByte 4 = .ok (.iconst 1, 1) := by decide +kernel
theorem dX4_appendAddedByte_5 : decode cX4_appendAddedByte 5 = .ok (.isub, 1) := by decide +kernel
theorem dX4_appendAddedByte_6 : decode cX4_appendAddedByte 6 = .ok (.istore_n 1, 1) := by decide +kernel
theorem dX4_appendAddedByte_7 : decode cX4_appendAddedByte 7 = .ok (.iload_n 1, 1) := by decide +kernel
theorem dX4_appendAddedByte_8 : decode cX4_appendAddedByte 8 = .ok (.ifCond .lt 26, 3) := by decide +kernel
theorem dX4_appendAddedByte_11 : decode cX4_appendAddedByte 11 = .ok (.aload_n 0, 1) := by decide +kernel
theorem dX4_appendAddedByte_12 : decode cX4_appendAddedByte 12 = .ok (.getfield 9, 3) := by decide +kernel
theorem dX4_appendAddedByte_15 : decode cX4_appendAddedByte 15 = .ok (.iload_n 1, 1) := by decide +kernel
theorem dX4_appendAddedByte_16 : decode cX4_appendAddedByte 16 = .ok (.iaload, 1) := by decide +kernel
theorem dX4_appendAddedByte_17 : decode cX4_appendAddedByte 17 = .ok (.iconst 1, 1) := by decide +kernel
theorem dX4_appendAddedByte_18 : decode cX4_appendAddedByte 18 = .ok (.if_icmp .ne 16, 3) := by decide +kernel
theorem dX4_appendAddedByte_21 : decode cX4_appendAddedByte 21 = .ok (.aload_n 0, 1) := by decide +kernel
theorem dX4_appendAddedByte_22 : decode cX4_appendAddedByte 22 = .ok (.getfield 15, 3) := by decide +kernel
theorem dX4_appendAddedByte_25 : decode cX4_appendAddedByte 25 = .ok (.iload_n 1, 1) := by decide +kernel
theorem dX4_appendAddedByte_26 : decode cX4_appendAddedByte 26 = .ok (.dup2, 1) := by decide +kernel
theorem dX4_appendAddedByte_27 : decode cX4_appendAddedByte 27 = .ok (.iaload, 1) := by decide +kernel
theorem dX4_appendAddedByte_28 : decode cX4_appendAddedByte 28 = .ok (.iconst 1, 1) := by decide +kernel
theorem dX4_appendAddedByte_29 : decode cX4_appendAddedByte 29 = .ok (.iadd, 1) := by decide +kernel
theorem dX4_appendAddedByte_30 : decode cX4_appendAddedByte 30 = .ok (.iastore, 1) := by decide +kernel
theorem dX4_appendAddedByte_31 : decode cX4_appendAddedByte 31 = .ok (.goto 10, 3) := by decide +kernel
theorem dX4_appendAddedByte_34 : decode cX4_appendAddedByte 34 = .ok (.aload_n 0, 1) := by decide +kernel
theorem dX4_appendAddedByte_35 : decode cX4_appendAddedByte 35 = .ok (.iconst 1, 1) := by decide +kernel
theorem dX4_appendAddedByte_36 : decode cX4_appendAddedByte 36 = .ok (.iconst 1, 1) := by decide +kernel
theorem dX4_appendAddedByte_37 : decode cX4_appendAddedByte 37 = .ok (.iconst 0, 1) := by decide +kernel
theorem dX4_appendAddedByte_38 : decode cX4_appendAddedByte 38 = .ok (.invokevirtual 25, 3) := by decide +kernel
theorem dX4_appendAddedByte_41 : decode cX4_appendAddedByte 41 = .ok (.return_, 1) := by decide +kernel
theorem dX4_sizeOf_0 : decode cX4_sizeOf 0 = .ok (.iload_n 1, 1) := by decide +kernel
theorem dX4_sizeOf_1 : decode cX4_sizeOf 1 = .ok (.ifCond .lt 20, 3) := by decide +kernel
theorem dX4_sizeOf_4 : decode cX4_sizeOf 4 = .ok (.iload_n 1, 1) := by decide +kernel
theorem dX4_sizeOf_5 : decode cX4_sizeOf 5 = .ok (.aload_n 0, 1) := by decide +kernel
theorem dX4_sizeOf_6 : decode cX4_sizeOf 6 = .ok (.getfield 21, 3) := by decide +kernel
theorem dX4_sizeOf_9 : decode cX4_sizeOf 9 = .ok (.if_icmp .ge 12, 3) := by decide +kernel
theorem dX4_sizeOf_12 : decode cX4_sizeOf 12 = .ok (.aload_n 0, 1) := by decide +kernel
theorem dX4_sizeOf_13 : decode cX4_sizeOf 13 = .ok (.getfield 15, 3) := by decide +kernel
theorem dX4_sizeOf_16 : decode cX4_sizeOf 16 = .ok (.iload_n 1, 1) := by decide +kernel
theorem dX4_sizeOf_17 : decode cX4_sizeOf 17 = .ok (.iaload, 1) := by decide +kernel
theorem dX4_sizeOf_18 : decode cX4_sizeOf 18 = .ok (.goto 4, 3) := by decide +kernel
theorem dX4_sizeOf_21 : decode cX4_sizeOf 21 = .ok (.iconst 0, 1) := by decide +kernel
theorem dX4_sizeOf_22 : decode cX4_sizeOf 22 = .ok (.ireturn, 1) := by decide +kernel
set_option maxRecDepth 20000 in
theorem ggX4_singleCode_X1_single : GoodIn wsX4_singleCode wsX1_single := goodIn_r _ [8] (by decide +kernel) (by decide +kernel)
set_option maxRecDepth 20000 in
theorem gX4_singleCode_X1_single : GoodIn wsX4_singleCode (va_wsS RX4 29 yX1_single wsX1_single) := goodIn_app (goodIn_of _ (by decide +kernel)) ggX4_singleCode_X1_single
theorem dX4_singleCode_0 : decode cX4_singleCode 0 = .ok (.iload_n 1, 1) := by decide +kernel
theorem dX4_singleCode_1 : decode cX4_singleCode 1 = .ok (.ifCond .lt 35, 3) := by decide +kernel
theorem dX4_singleCode_4 : decode cX4_singleCode 4 = .ok (.iload_n 1, 1) := by decide +kernel
theorem dX4_singleCode_5 : decode cX4_singleCode 5 = .ok (.aload_n 0, 1) := by decide +kernel
theorem dX4_singleCode_6 : decode cX4_singleCode 6 = .ok (.getfield 21, 3) := by decide +kernel
theorem dX4_singleCode_9 : decode cX4_singleCode 9 = .ok (.if_icmp .ge 27, 3) := by decide +kernel
theorem dX4_singleCode_12 : decode cX4_singleCode 12 = .ok (.aload_n 0, 1) := by decide +kernel
theorem dX4_singleCode_13 : decode cX4_singleCode 13 = .ok (.getfield 9, 3) := by decide +kernel
theorem dX4_singleCode_16 : decode cX4_singleCode 16 = .ok (.iload_n 1, 1) := by decide +kernel
theorem dX4_singleCode_17 : decode cX4_singleCode 17 = .ok (.iaload, 1) := by decide +kernel
theorem dX4_singleCode_18 : decode cX4_singleCode 18 = .ok (.aload_n 0, 1) := by decide +kernel
theorem dX4_singleCode_19 : decode cX4_singleCode 19 = .ok (.getfield 15, 3) := by decide +kernel
theorem dX4_singleCode_22 : decode cX4_singleCode 22 = .ok (.iload_n 1, 1) := by decide +kernel
theorem dX4_singleCode_23 : decode cX4_singleCode 23 = .ok (.iaload, 1) := by decide +kernel
theorem dX4_singleCode_24 : decode cX4_singleCode 24 = .ok (.aload_n 0, 1) := by decide +kernel
theorem dX4_singleCode_25 : decode cX4_singleCode 25 = .ok (.getfield 18, 3) := by decide +kernel
theorem dX4_singleCode_28 : decode cX4_singleCode 28 = .ok (.iload_n 1, 1) := by decide +kernel
theorem dX4_singleCode_29 : decode cX4_singleCode 29 = .ok (.iaload, 1) := by decide +kernel
theorem dX4_singleCode_30 : decode cX4_singleCode 30 = .ok (.invokestatic 29, 3) := by decide +kernel
theorem dX4_singleCode_33 : decode cX4_singleCode 33 = .ok (.goto 4, 3) := by decide +kernel
theorem dX4_singleCode_36 : decode cX4_singleCode 36 = .ok (.iconst (-1), 1) := by decide +kernel
theorem dX4_singleCode_37 : decode cX4_singleCode 37 = .ok (.ireturn, 1) := by decide +kernel
set_option maxRecDepth 20000 in
theorem ggX4_pairCode_X1_addThenCopy : GoodIn wsX4_pairCode wsX1_addThenCopy := goodIn_r _ [8] (by decide +kernel) (by decide +kernel)
set_option maxRecDepth 20000 in
theorem gX4_pairCode_X1_addThenCopy : GoodIn wsX4_pairCode (va_wsS RX4 35 yX1_addThenCopy wsX1_addThenCopy) := goodIn_app (goodIn_of _ (by decide +kernel)) ggX4_pairCode_X1_addThenCopy
set_option maxRecDepth 20000 in
theorem ggX4_pairCode_X1_copyThenAdd : GoodIn wsX4_pairCode wsX1_copyThenAdd := goodIn_r _ [11] (by decide +kernel) (by decide +kernel)
set_option maxRecDepth 20000 in
theorem gX4_pairCode_X1_copyThenAdd : GoodIn wsX4_pairCode (va_wsS RX4 38 yX1_copyThenAdd wsX1_copyThenAdd) := goodIn_app (goodIn_of _ (by decide +kernel)) ggX4_pairCode_X1_copyThenAdd
theorem dX4_pairCode_0 : decode cX4_pairCode 0 = .ok (.iload_n 1, 1) := by decide +kernel
theorem dX4_pairCode_1 : decode cX4_pairCode 1 = .ok (.iconst 1, 1) := by decide +kernel
theorem dX4_pairCode_2 : decode cX4_pairCode 2 = .ok (.iadd, 1) := by decide +kernel
theorem dX4_pairCode_3 : decode cX4_pairCode 3 = .ok (.istore_n 2, 1) := by decide +kernel
theorem dX4_pairCode_4 : decode cX4_pairCode 4 = .ok (.iload_n 1, 1) := by decide +kernel
theorem dX4_pairCode_5 : decode cX4_pairCode 5 = .ok (.ifCond .lt 11, 3) := by decide +kernel
theorem dX4_pairCode_8 : decode cX4_pairCode 8 = .ok (.iload_n 2, 1) := by decide +kernel
theorem dX4_pairCode_9 : decode cX4_pairCode 9 = .ok (.aload_n 0, 1) := by decide +kernel
theorem dX4_pairCode_10 : decode cX4_pairCode 10 = .ok (.getfield 21, 3) := by decide +kernel
theorem dX4_pairCode_13 : decode cX4_pairCode 13 = .ok (.if_icmp .lt 5, 3) := by decide +kernel
theorem dX4_pairCode_16 : decode cX4_pairCode 16 = .ok (.iconst (-1), 1) := by decide +kernel
theorem dX4_pairCode_17 : decode cX4_pairCode 17 = .ok (.ireturn, 1) := by decide +kernel
theorem dX4_pairCode_18 : decode cX4_pairCode 18 = .ok (.aload_n 0, 1) := by decide +kernel
theorem dX4_pairCode_19 : decode cX4_pairCode 19 = .ok (.getfield 9, 3) := by decide +kernel
theorem dX4_pairCode_22 : decode cX4_pairCode 22 = .ok (.iload_n 1, 1) := by decide +kernel
theorem dX4_pairCode_23 : decode cX4_pairCode 23 = .ok (.iaload, 1) := by decide +kernel
theorem dX4_pairCode_24 : decode cX4_pairCode 24 = .ok (.iconst 1, 1) := by decide +kernel
theorem dX4_pairCode_25 : decode cX4_pairCode 25 = .ok (.if_icmp .ne 35, 3) := by decide +kernel
theorem dX4_pairCode_28 : decode cX4_pairCode 28 = .ok (.aload_n 0, 1) := by decide +kernel
theorem dX4_pairCode_29 : decode cX4_pairCode 29 = .ok (.getfield 9, 3) := by decide +kernel
theorem dX4_pairCode_32 : decode cX4_pairCode 32 = .ok (.iload_n 2, 1) := by decide +kernel
theorem dX4_pairCode_33 : decode cX4_pairCode 33 = .ok (.iaload, 1) := by decide +kernel
theorem dX4_pairCode_34 : decode cX4_pairCode 34 = .ok (.iconst 3, 1) := by decide +kernel
theorem dX4_pairCode_35 : decode cX4_pairCode 35 = .ok (.if_icmp .ne 25, 3) := by decide +kernel
theorem dX4_pairCode_38 : decode cX4_pairCode 38 = .ok (.aload_n 0, 1) := by decide +kernel
theorem dX4_pairCode_39 : decode cX4_pairCode 39 = .ok (.getfield 15, 3) := by decide +kernel
theorem dX4_pairCode_42 : decode cX4_pairCode 42 = .ok (.iload_n 1, 1) := by decide +kernel
theorem dX4_pairCode_43 : decode cX4_pairCode 43 = .ok (.iaload, 1) := by decide +kernel
theorem dX4_pairCode_44 : decode cX4_pairCode 44 = .ok (.aload_n 0, 1) := by decide +kernel
theorem dX4_pairCode_45 : decode cX4_pairCode 45 = .ok (.getfield 15, 3) := by decide +kernel
theorem dX4_pairCode_48 : decode cX4_pairCode 48 = .ok (.iload_n 2, 1) := by decide +kernel
theorem dX4_pairCode_49 : decode cX4_pairCode 49 = .ok (.iaload, 1) := by decide +kernel
theorem dX4_pairCode_50 : decode cX4_pairCode 50 = .ok (.aload_n 0, 1) := by decide +kernel
theorem dX4_pairCode_51 : decode cX4_pairCode 51 = .ok (.getfield 18, 3) := by decide +kernel
theorem dX4_pairCode_54 : decode cX4_pairCode 54 = .ok (.iload_n 2, 1) := by decide +kernel
theorem dX4_pairCode_55 : decode cX4_pairCode 55 = .ok (.iaload, 1) := by decide +kernel
theorem dX4_pairCode_56 : decode cX4_pairCode 56 = .ok (.invokestatic 35, 3) := by decide +kernel
theorem dX4_pairCode_59 : decode cX4_pairCode 59 = .ok (.ireturn, 1) := by decide +kernel
theorem dX4_pairCode_60 : decode cX4_pairCode 60 = .ok (.aload_n 0, 1) := by decide +kernel
theorem dX4_pairCode_61 : decode cX4_pairCode 61 = .ok (.getfield 9, 3) := by decide +kernel
theorem dX4_pairCode_64 : decode cX4_pairCode 64 = .ok (.iload_n 1, 1) := by decide +kernel
theorem dX4_pairCode_65 : decode cX4_pairCode 65 = .ok (.iaload, 1) := by decide +kernel
theorem dX4_pairCode_66 : decode cX4_pairCode 66 = .ok (.iconst 3, 1) := by decide +kernel
theorem dX4_pairCode_67 : decode cX4_pairCode 67 = .ok (.if_icmp .ne 35, 3) := by decide +kernel
theorem dX4_pairCode_70 : decode cX4_pairCode 70 = .ok (.aload_n 0, 1) := by decide +kernel
theorem dX4_pairCode_71 : decode cX4_pairCode 71 = .ok (.getfield 9, 3) := by decide +kernel
theorem dX4_pairCode_74 : decode cX4_pairCode 74 = .ok (.iload_n 2, 1) := by decide +kernel
theorem dX4_pairCode_75 : decode cX4_pairCode 75 = .ok (.iaload, 1) := by decide +kernel
theorem dX4_pairCode_76 : decode cX4_pairCode 76 = .ok (.iconst 1, 1) := by decide +kernel
theorem dX4_pairCode_77 : decode cX4_pairCode 77 = .ok (.if_icmp .ne 25, 3) := by decide +kernel
theorem dX4_pairCode_80 : decode cX4_pairCode 80 = .ok (.aload_n 0, 1) := by decide +kernel
theorem dX4_pairCode_81 : decode cX4_pairCode 81 = .ok (.getfield 15, 3) := by decide +kernel
theorem dX4_pairCode_84 : decode cX4_pairCode 84 = .ok (.iload_n 1, 1) := by decide +kernel
theorem dX4_pairCode_85 : decode cX4_pairCode 85 = .ok (.iaload, 1) := by decide +kernel
theorem dX4_pairCode_86 : decode cX4_pairCode 86 = .ok (.aload_n 0, 1) := by decide +kernel
theorem dX4_pairCode_87 : decode cX4_pairCode 87 = .ok (.getfield 18, 3) := by decide +kernel
theorem dX4_pairCode_90 : decode cX4_pairCode 90 = .ok (.iload_n 1, 1) := by decide +kernel
theorem dX4_pairCode_91 : decode cX4_pairCode 91 = .ok (.iaload, 1) := by decide +kernel
theorem dX4_pairCode_92 : decode cX4_pairCode 92 = .ok (.aload_n 0, 1) := by decide +kernel
theorem dX4_pairCode_93 : decode cX4_pairCode 93 = .ok (.getfield 15, 3) := by decide +kernel
theorem dX4_pairCode_96 : decode cX4_pairCode 96 = .ok (.iload_n 2, 1) := by decide +kernel
theorem dX4_pairCode_97 : decode cX4_pairCode 97 = .ok (.iaload, 1) := by decide +kernel
theorem dX4_pairCode_98 : decode cX4_pairCode 98 = .ok (.invokestatic 38, 3) := by decide +kernel
theorem dX4_pairCode_101 : decode cX4_pairCode 101 = .ok (.ireturn, 1) := by decide +kernel
theorem dX4_pairCode_102 : decode cX4_pairCode 102 = .ok (.iconst (-1), 1) := by decide +kernel
theorem dX4_pairCode_103 : decode cX4_pairCode 103 = .ok (.ireturn, 1) := by decide +kernel
theorem dX5_init_0 : decode cX5_init 0 = .ok (.aload_n 0, 1) := by decide +kernel
theorem dX5_init_1 : decode cX5_init 1 = .ok (.invokespecial 3, 3) := by decide +kernel
theorem dX5_init_4 : decode cX5_init 4 = .ok (.aload_n 0, 1) := by decide +kernel
theorem dX5_init_5 : decode cX5_init 5 = .ok (.aload_n 1, 1) := by decide +kernel
theorem dX5_init_6 : decode cX5_init 6 = .ok (.putfield 9, 3) := by decide +kernel
theorem dX5_init_9 : decode cX5_init 9 = .ok (.aload_n 0, 1) := by decide +kernel
theorem dX5_init_10 : decode cX5_init 10 = .ok (.iconst 0, 1) := by decide +kernel
theorem dX5_init_11 : decode cX5_init 11 = .ok (.putfield 15, 3) := by decide +kernel
theorem dX5_init_14 : decode cX5_init 14 = .ok (.aload_n 0, 1) := by decide +kernel
theorem dX5_init_15 : decode cX5_init 15 = .ok (.iconst 0, 1) := by decide +kernel
theorem dX5_init_16 : decode cX5_init 16 = .ok (.putfield 19, 3) := by decide +kernel
theorem dX5_init_19 : decode cX5_init 19 = .ok (.return_, 1) := by decide +kernel
theorem dX5_open_0 : decode cX5_open 0 = .ok (.aload_n 0, 1) := by decide +kernel
theorem dX5_open_1 : decode cX5_open 1 = .ok (.iconst 0, 1) := by decide +kernel
theorem dX5_open_2 : decode cX5_open 2 = .ok (.iload_n 1, 1) := by decide +kernel
theorem dX5_open_3 : decode cX5_open 3 = .ok (.aload_n 0, 1) := by decide +kernel
theorem dX5_open_4 : decode cX5_open 4 = .ok (.getfield 9, 3) := by decide +kernel
theorem dX5_open_7 : decode cX5_open 7 = .ok (.getfield 22, 3) := by decide +kernel
theorem dX5_open_10 : decode cX5_open 10 = .ok (.invokestatic 27, 3) := by decide +kernel
theorem dX5_open_13 : decode cX5_open 13 = .ok (.invokestatic 33, 3) := by decide +kernel
theorem dX5_open_16 : decode cX5_open 16 = .ok (.putfield 15, 3) := by decide +kernel
theorem dX5_open_19 : decode cX5_open 19 = .ok (.aload_n 0, 1) := by decide +kernel
theorem dX5_open_20 : decode cX5_open 20 = .ok (.aload_n 0, 1) := by decide +kernel
theorem dX5_open_21 : decode cX5_open 21 = .ok (.getfield 15, 3) := by decide +kernel
theorem dX5_open_24 : decode cX5_open 24 = .ok (.iconst 0, 1) := by decide +kernel
theorem dX5_open_25 : decode cX5_open 25 = .ok (.iload_n 2, 1) := by decide +kernel
theorem dX5_open_26 : decode cX5_open 26 = .ok (.aload_n 0, 1) := by decide +kernel
theorem dX5_open_27 : decode cX5_open 27 = .ok (.getfield 9, 3) := by decide +kernel
theorem dX5_open_30 : decode cX5_open 30 = .ok (.getfield 22, 3) := by decide +kernel
theorem dX5_open_33 : decode cX5_open 33 = .ok (.aload_n 0, 1) := by decide +kernel
theorem dX5_open_34 : decode cX5_open 34 = .ok (.getfield 15, 3) := by decide +kernel
theorem dX5_open_37 : decode cX5_open 37 = .ok (.isub, 1) := by decide +kernel
theorem dX5_open_38 : decode cX5_open 38 = .ok (.invokestatic 27, 3) := by decide +kernel
theorem dX5_open_41 : decode cX5_open 41 = .ok (.invokestatic 33, 3) := by decide +kernel
theorem dX5_open_44 : decode cX5_open 44 = .ok (.iadd, 1) := by decide +kernel
theorem dX5_open_45 : decode cX5_open 45 = .ok (.putfield 19, 3) := by decide +kernel
theorem dX5_open_48 : decode cX5_open 48 = .ok (.return_, 1) := by decide +kernel
theorem dX5_place_0 : decode cX5_place 0 = .ok (.aload_n 0, 1) := by decide +kernel
theorem dX5_place_1 : decode cX5_place 1 = .ok (.getfield 15, 3) := by decide +kernel
theorem dX5_place_4 : decode cX5_place 4 = .ok (.ireturn, 1) := by decide +kernel
theorem dX5_left_0 : decode cX5_left 0 = .ok (.aload_n 0, 1) := by decide +kernel
theorem dX5_left_1 : decode cX5_left 1 = .ok (.getfield 19, 3) := by decide +kernel
theorem dX5_left_4 : decode cX5_left 4 = .ok (.aload_n 0, 1) := by decide +kernel
theorem dX5_left_5 : decode cX5_left 5 = .ok (.getfield 15, 3) := by decide +kernel
theorem dX5_left_8 : decode cX5_left 8 = .ok (.isub, 1) := by decide +kernel
theorem dX5_left_9 : decode cX5_left 9 = .ok (.ireturn, 1) := by decide +kernel
theorem dX5_nextByte_0 : decode cX5_nextByte 0 = .ok (.aload_n 0, 1) := by decide +kernel
theorem dX5_nextByte_1 : decode cX5_nextByte 1 = .ok (.getfield 15, 3) := by decide +kernel
theorem dX5_nextByte_4 : decode cX5_nextByte 4 = .ok (.ifCond .lt 29, 3) := by decide +kernel
theorem dX5_nextByte_7 : decode cX5_nextByte 7 = .ok (.aload_n 0, 1) := by decide +kernel
theorem dX5_nextByte_8 : decode cX5_nextByte 8 = .ok (.getfield 15, 3) := by decide +kernel
theorem dX5_nextByte_11 : decode cX5_nextByte 11 = .ok (.aload_n 0, 1) := by decide +kernel
theorem dX5_nextByte_12 : decode cX5_nextByte 12 = .ok (.getfield 19, 3) := by decide +kernel
theorem dX5_nextByte_15 : decode cX5_nextByte 15 = .ok (.if_icmp .ge 18, 3) := by decide +kernel
theorem dX5_nextByte_18 : decode cX5_nextByte 18 = .ok (.aload_n 0, 1) := by decide +kernel
theorem dX5_nextByte_19 : decode cX5_nextByte 19 = .ok (.getfield 15, 3) := by decide +kernel
theorem dX5_nextByte_22 : decode cX5_nextByte 22 = .ok (.aload_n 0, 1) := by decide +kernel
theorem dX5_nextByte_23 : decode cX5_nextByte 23 = .ok (.getfield 9, 3) := by decide +kernel
theorem dX5_nextByte_26 : decode cX5_nextByte 26 = .ok (.getfield 36, 3) := by decide +kernel
theorem dX5_nextByte_29 : decode cX5_nextByte 29 = .ok (.arraylength, 1) := by decide +kernel
theorem dX5_nextByte_30 : decode cX5_nextByte 30 = .ok (.if_icmp .lt 5, 3) := by decide +kernel
theorem dX5_nextByte_33 : decode cX5_nextByte 33 = .ok (.iconst (-1), 1) := by decide +kernel
theorem dX5_nextByte_34 : decode cX5_nextByte 34 = .ok (.ireturn, 1) := by decide +kernel
theorem dX5_nextByte_35 : decode cX5_nextByte 35 = .ok (.aload_n 0, 1) := by decide +kernel
theorem dX5_nextByte_36 : decode cX5_nextByte 36 = .ok (.getfield 9, 3) := by decide +kernel
theorem dX5_nextByte_39 : decode cX5_nextByte 39 = .ok (.getfield 36, 3) := by decide +kernel
theorem dX5_nextByte_42 : decode cX5_nextByte 42 = .ok (.aload_n 0, 1) := by decide +kernel
theorem dX5_nextByte_43 : decode cX5_nextByte 43 = .ok (.getfield 15, 3) := by decide +kernel
theorem dX5_nextByte_46 : decode cX5_nextByte 46 = .ok (.iaload, 1) := by decide +kernel
theorem dX5_nextByte_47 : decode cX5_nextByte 47 = .ok (.istore_n 1, 1) := by decide +kernel
theorem dX5_nextByte_48 : decode cX5_nextByte 48 = .ok (.aload_n 0, 1) := by decide +kernel
theorem dX5_nextByte_49 : decode cX5_nextByte 49 = .ok (.dup, 1) := by decide +kernel
theorem dX5_nextByte_50 : decode cX5_nextByte 50 = .ok (.getfield 15, 3) := by decide +kernel
theorem dX5_nextByte_53 : decode cX5_nextByte 53 = .ok (.iconst 1, 1) := by decide +kernel
theorem dX5_nextByte_54 : decode cX5_nextByte 54 = .ok (.iadd, 1) := by decide +kernel
theorem dX5_nextByte_55 : decode cX5_nextByte 55 = .ok (.putfield 15, 3) := by decide +kernel
theorem dX5_nextByte_58 : decode cX5_nextByte 58 = .ok (.iload_n 1, 1) := by decide +kernel
theorem dX5_nextByte_59 : decode cX5_nextByte 59 = .ok (.ireturn, 1) := by decide +kernel
set_option maxRecDepth 20000 in
theorem ggX5_nextInteger_X5_nextByte : GoodIn wsX5_nextInteger wsX5_nextByte := goodIn_r _ [7, 8, 9, 10, 11, 12, 13, 14, 15] (by decide +kernel) (by decide +kernel)
set_option maxRecDepth 20000 in
theorem gX5_nextInteger_X5_nextByte : GoodIn wsX5_nextInteger (wsV RX5 40 RX5 yX5_nextByte wsX5_nextByte) := goodIn_app (goodIn_of _ (by decide +kernel)) ggX5_nextInteger_X5_nextByte
theorem dX5_nextInteger_0 : decode cX5_nextInteger 0 = .ok (.lconst 0, 1) := by decide +kernel
theorem dX5_nextInteger_1 : decode cX5_nextInteger 1 = .ok (.lstore_n 1, 1) := by decide +kernel
theorem dX5_nextInteger_2 : decode cX5_nextInteger 2 = .ok (.iconst 0, 1) := by decide +kernel
theorem dX5_nextInteger_3 : decode cX5_nextInteger 3 = .ok (.istore_n 3, 1) := by decide +kernel
theorem dX5_nextInteger_4 : decode cX5_nextInteger 4 = .ok (.iload_n 3, 1) := by decide +kernel
theorem dX5_nextInteger_5 : decode cX5_nextInteger 5 = .ok (.iconst 5, 1) := by decide +kernel
theorem dX5_nextInteger_6 : decode cX5_nextInteger 6 = .ok (.if_icmp .ge 59, 3) := by decide +kernel
theorem dX5_nextInteger_9 : decode cX5_nextInteger 9 = .ok (.aload_n 0, 1) := by decide +kernel
theorem dX5_nextInteger_10 : decode cX5_nextInteger 10 = .ok (.invokevirtual 40, 3) := by decide +kernel
theorem dX5_nextInteger_13 : decode cX5_nextInteger 13 = .ok (.istore 4, 2) := by decide +kernel
theorem dX5_nextInteger_15 : decode cX5_nextInteger 15 = .ok (.iload 4, 2) := by decide +kernel
theorem dX5_nextInteger_17 : decode cX5_nextInteger 17 = .ok (.iconst (-1), 1) := by decide +kernel
theorem dX5_nextInteger_18 : decode cX5_nextInteger 18 = .ok (.if_icmp .ne 5, 3) := by decide +kernel
theorem dX5_nextInteger_21 : decode cX5_nextInteger 21 = .ok (.iconst (-1), 1) := by decide +kernel
theorem dX5_nextInteger_22 : decode cX5_nextInteger 22 = .ok (.ireturn, 1) := by decide +kernel
theorem dX5_nextInteger_23 : decode cX5_nextInteger 23 = .ok (.lload_n 1, 1) := by decide +kernel
theorem dX5_nextInteger_24 : decode cX5_nextInteger 24 = .ok (.ldc2_w 44, 3) := by decide +kernel
theorem dX5_nextInteger_27 : decode cX5_nextInteger 27 = .ok (.lmul, 1) := by decide +kernel
theorem dX5_nextInteger_28 : decode cX5_nextInteger 28 = .ok (.iload 4, 2) := by decide +kernel
theorem dX5_nextInteger_30 : decode cX5_nextInteger 30 = .ok (.bipush 127, 2) := by decide +kernel
theorem dX5_nextInteger_32 : decode cX5_nextInteger 32 = .ok (.iand, 1) := by decide +kernel
theorem dX5_nextInteger_33 : decode cX5_nextInteger 33 = .ok (.i2l, 1) := by decide +kernel
theorem dX5_nextInteger_34 : decode cX5_nextInteger 34 = .ok (.ladd, 1) := by decide +kernel
theorem dX5_nextInteger_35 : decode cX5_nextInteger 35 = .ok (.lstore_n 1, 1) := by decide +kernel
theorem dX5_nextInteger_36 : decode cX5_nextInteger 36 = .ok (.iload 4, 2) := by decide +kernel
theorem dX5_nextInteger_38 : decode cX5_nextInteger 38 = .ok (.sipush 128, 3) := by decide +kernel
theorem dX5_nextInteger_41 : decode cX5_nextInteger 41 = .ok (.if_icmp .ge 18, 3) := by decide +kernel
theorem dX5_nextInteger_44 : decode cX5_nextInteger 44 = .ok (.lload_n 1, 1) := by decide +kernel
theorem dX5_nextInteger_45 : decode cX5_nextInteger 45 = .ok (.ldc2_w 46, 3) := by decide +kernel
theorem dX5_nextInteger_48 : decode cX5_nextInteger 48 = .ok (.lcmp, 1) := by decide +kernel
theorem dX5_nextInteger_49 : decode cX5_nextInteger 49 = .ok (.ifCond .le 7, 3) := by decide +kernel
theorem dX5_nextInteger_52 : decode cX5_nextInteger 52 = .ok (.iconst (-1), 1) := by decide +kernel
theorem dX5_nextInteger_53 : decode cX5_nextInteger 53 = .ok (.goto 5, 3) := by decide +kernel
theorem dX5_nextInteger_56 : decode cX5_nextInteger 56 = .ok (.lload_n 1, 1) := by decide +kernel
theorem dX5_nextInteger_57 : decode cX5_nextInteger 57 = .ok (.l2i, 1) := by decide +kernel
theorem dX5_nextInteger_58 : decode cX5_nextInteger 58 = .ok (.ireturn, 1) := by decide +kernel
theorem dX5_nextInteger_59 : decode cX5_nextInteger 59 = .ok (.iinc 3 1, 3) := by decide +kernel
theorem dX5_nextInteger_62 : decode cX5_nextInteger 62 = .ok (.goto (-58), 3) := by decide +kernel
theorem dX5_nextInteger_65 : decode cX5_nextInteger 65 = .ok (.iconst (-1), 1) := by decide +kernel
theorem dX5_nextInteger_66 : decode cX5_nextInteger 66 = .ok (.ireturn, 1) := by decide +kernel
theorem dX6_init_0 : decode cX6_init 0 = .ok (.aload_n 0, 1) := by decide +kernel
theorem dX6_init_1 : decode cX6_init 1 = .ok (.invokespecial 3, 3) := by decide +kernel
theorem dX6_init_4 : decode cX6_init 4 = .ok (.aload_n 0, 1) := by decide +kernel
theorem dX6_init_5 : decode cX6_init 5 = .ok (.iload_n 1, 1) := by decide +kernel
theorem dX6_init_6 : decode cX6_init 6 = .ok (.newarray .int, 2) := by decide +kernel
theorem dX6_init_8 : decode cX6_init 8 = .ok (.putfield 9, 3) := by decide +kernel
theorem dX6_init_11 : decode cX6_init 11 = .ok (.aload_n 0, 1) := by decide +kernel
theorem dX6_init_12 : decode cX6_init 12 = .ok (.iconst 0, 1) := by decide +kernel
theorem dX6_init_13 : decode cX6_init 13 = .ok (.putfield 15, 3) := by decide +kernel
theorem dX6_init_16 : decode cX6_init 16 = .ok (.return_, 1) := by decide +kernel
theorem dX6_count_0 : decode cX6_count 0 = .ok (.aload_n 0, 1) := by decide +kernel
theorem dX6_count_1 : decode cX6_count 1 = .ok (.getfield 15, 3) := by decide +kernel
theorem dX6_count_4 : decode cX6_count 4 = .ok (.ireturn, 1) := by decide +kernel
theorem dX6_room_0 : decode cX6_room 0 = .ok (.aload_n 0, 1) := by decide +kernel
theorem dX6_room_1 : decode cX6_room 1 = .ok (.getfield 9, 3) := by decide +kernel
theorem dX6_room_4 : decode cX6_room 4 = .ok (.arraylength, 1) := by decide +kernel
theorem dX6_room_5 : decode cX6_room 5 = .ok (.aload_n 0, 1) := by decide +kernel
theorem dX6_room_6 : decode cX6_room 6 = .ok (.getfield 15, 3) := by decide +kernel
theorem dX6_room_9 : decode cX6_room 9 = .ok (.isub, 1) := by decide +kernel
theorem dX6_room_10 : decode cX6_room 10 = .ok (.ireturn, 1) := by decide +kernel
theorem dX6_at_0 : decode cX6_at 0 = .ok (.iload_n 1, 1) := by decide +kernel
theorem dX6_at_1 : decode cX6_at 1 = .ok (.ifCond .lt 20, 3) := by decide +kernel
theorem dX6_at_4 : decode cX6_at 4 = .ok (.iload_n 1, 1) := by decide +kernel
theorem dX6_at_5 : decode cX6_at 5 = .ok (.aload_n 0, 1) := by decide +kernel
theorem dX6_at_6 : decode cX6_at 6 = .ok (.getfield 15, 3) := by decide +kernel
theorem dX6_at_9 : decode cX6_at 9 = .ok (.if_icmp .ge 12, 3) := by decide +kernel
theorem dX6_at_12 : decode cX6_at 12 = .ok (.aload_n 0, 1) := by decide +kernel
theorem dX6_at_13 : decode cX6_at 13 = .ok (.getfield 9, 3) := by decide +kernel
theorem dX6_at_16 : decode cX6_at 16 = .ok (.iload_n 1, 1) := by decide +kernel
theorem dX6_at_17 : decode cX6_at 17 = .ok (.iaload, 1) := by decide +kernel
theorem dX6_at_18 : decode cX6_at 18 = .ok (.goto 4, 3) := by decide +kernel
theorem dX6_at_21 : decode cX6_at 21 = .ok (.iconst (-1), 1) := by decide +kernel
theorem dX6_at_22 : decode cX6_at 22 = .ok (.ireturn, 1) := by decide +kernel
theorem dX6_replace_0 : decode cX6_replace 0 = .ok (.iload_n 1, 1) := by decide +kernel
theorem dX6_replace_1 : decode cX6_replace 1 = .ok (.ifCond .lt 18, 3) := by decide +kernel
theorem dX6_replace_4 : decode cX6_replace 4 = .ok (.iload_n 1, 1) := by decide +kernel
theorem dX6_replace_5 : decode cX6_replace 5 = .ok (.aload_n 0, 1) := by decide +kernel
end
section
theorem dX6_replace_6 : decode cX6_replace 6 = .ok (.getfield 15, 3) := by decide +kernel
theorem dX6_replace_9 : decode cX6_replace 9 = .ok (.if_icmp .ge 10, 3) := by decide +kernel
theorem dX6_replace_12 : decode cX6_replace 12 = .ok (.aload_n 0, 1) := by decide +kernel
theorem dX6_replace_13 : decode cX6_replace 13 = .ok (.getfield 9, 3) := by decide +kernel
theorem dX6_replace_16 : decode cX6_replace 16 = .ok (.iload_n 1, 1) := by decide +kernel
theorem dX6_replace_17 : decode cX6_replace 17 = .ok (.iload_n 2, 1) := by decide +kernel
theorem dX6_replace_18 : decode cX6_replace 18 = .ok (.iastore, 1) := by decide +kernel
theorem dX6_replace_19 : decode cX6_replace 19 = .ok (.return_, 1) := by decide +kernel
theorem dX6_keep_0 : decode cX6_keep 0 = .ok (.iload_n 1, 1) := by decide +kernel
theorem dX6_keep_1 : decode cX6_keep 1 = .ok (.ifCond .lt 16, 3) := by decide +kernel
theorem dX6_keep_4 : decode cX6_keep 4 = .ok (.iload_n 1, 1) := by decide +kernel
theorem dX6_keep_5 : decode cX6_keep 5 = .ok (.aload_n 0, 1) := by decide +kernel
theorem dX6_keep_6 : decode cX6_keep 6 = .ok (.getfield 15, 3) := by decide +kernel
theorem dX6_keep_9 : decode cX6_keep 9 = .ok (.if_icmp .ge 8, 3) := by decide +kernel
theorem dX6_keep_12 : decode cX6_keep 12 = .ok (.aload_n 0, 1) := by decide +kernel
theorem dX6_keep_13 : decode cX6_keep 13 = .ok (.iload_n 1, 1) := by decide +kernel
theorem dX6_keep_14 : decode cX6_keep 14 = .ok (.putfield 15, 3) := by decide +kernel
theorem dX6_keep_17 : decode cX6_keep 17 = .ok (.return_, 1) := by decide +kernel
theorem dX6_append_0 : decode cX6_append 0 = .ok (.aload_n 0, 1) := by decide +kernel
theorem dX6_append_1 : decode cX6_append 1 = .ok (.getfield 15, 3) := by decide +kernel
theorem dX6_append_4 : decode cX6_append 4 = .ok (.aload_n 0, 1) := by decide +kernel
theorem dX6_append_5 : decode cX6_append 5 = .ok (.getfield 9, 3) := by decide +kernel
theorem dX6_append_8 : decode cX6_append 8 = .ok (.arraylength, 1) := by decide +kernel
theorem dX6_append_9 : decode cX6_append 9 = .ok (.if_icmp .ge 23, 3) := by decide +kernel
theorem dX6_append_12 : decode cX6_append 12 = .ok (.aload_n 0, 1) := by decide +kernel
theorem dX6_append_13 : decode cX6_append 13 = .ok (.getfield 9, 3) := by decide +kernel
theorem dX6_append_16 : decode cX6_append 16 = .ok (.aload_n 0, 1) := by decide +kernel
theorem dX6_append_17 : decode cX6_append 17 = .ok (.getfield 15, 3) := by decide +kernel
theorem dX6_append_20 : decode cX6_append 20 = .ok (.iload_n 1, 1) := by decide +kernel
theorem dX6_append_21 : decode cX6_append 21 = .ok (.iastore, 1) := by decide +kernel
theorem dX6_append_22 : decode cX6_append 22 = .ok (.aload_n 0, 1) := by decide +kernel
theorem dX6_append_23 : decode cX6_append 23 = .ok (.dup, 1) := by decide +kernel
theorem dX6_append_24 : decode cX6_append 24 = .ok (.getfield 15, 3) := by decide +kernel
theorem dX6_append_27 : decode cX6_append 27 = .ok (.iconst 1, 1) := by decide +kernel
theorem dX6_append_28 : decode cX6_append 28 = .ok (.iadd, 1) := by decide +kernel
theorem dX6_append_29 : decode cX6_append 29 = .ok (.putfield 15, 3) := by decide +kernel
theorem dX6_append_32 : decode cX6_append 32 = .ok (.return_, 1) := by decide +kernel
set_option maxRecDepth 20000 in
theorem ggX6_appendRow_X6_append : GoodIn wsX6_appendRow wsX6_append := goodIn_r _ [7, 1, 2, 8, 9] (by decide +kernel) (by decide +kernel)
set_option maxRecDepth 20000 in
theorem gX6_appendRow_X6_append : GoodIn wsX6_appendRow (wsV RX6 19 RX6 yX6_append wsX6_append) := goodIn_app (goodIn_of _ (by decide +kernel)) ggX6_appendRow_X6_append
theorem dX6_appendRow_0 : decode cX6_appendRow 0 = .ok (.iconst 0, 1) := by decide +kernel
theorem dX6_appendRow_1 : decode cX6_appendRow 1 = .ok (.istore_n 2, 1) := by decide +kernel
theorem dX6_appendRow_2 : decode cX6_appendRow 2 = .ok (.iload_n 2, 1) := by decide +kernel
theorem dX6_appendRow_3 : decode cX6_appendRow 3 = .ok (.aload_n 1, 1) := by decide +kernel
theorem dX6_appendRow_4 : decode cX6_appendRow 4 = .ok (.getfield 15, 3) := by decide +kernel
theorem dX6_appendRow_7 : decode cX6_appendRow 7 = .ok (.if_icmp .ge 19, 3) := by decide +kernel
theorem dX6_appendRow_10 : decode cX6_appendRow 10 = .ok (.aload_n 0, 1) := by decide +kernel
theorem dX6_appendRow_11 : decode cX6_appendRow 11 = .ok (.aload_n 1, 1) := by decide +kernel
theorem dX6_appendRow_12 : decode cX6_appendRow 12 = .ok (.getfield 9, 3) := by decide +kernel
theorem dX6_appendRow_15 : decode cX6_appendRow 15 = .ok (.iload_n 2, 1) := by decide +kernel
theorem dX6_appendRow_16 : decode cX6_appendRow 16 = .ok (.iaload, 1) := by decide +kernel
theorem dX6_appendRow_17 : decode cX6_appendRow 17 = .ok (.invokevirtual 19, 3) := by decide +kernel
theorem dX6_appendRow_20 : decode cX6_appendRow 20 = .ok (.iinc 2 1, 3) := by decide +kernel
theorem dX6_appendRow_23 : decode cX6_appendRow 23 = .ok (.goto (-21), 3) := by decide +kernel
theorem dX6_appendRow_26 : decode cX6_appendRow 26 = .ok (.return_, 1) := by decide +kernel
set_option maxRecDepth 20000 in
theorem ggX6_appendInteger_X6_append : GoodIn wsX6_appendInteger wsX6_append := goodIn_r _ [5, 6, 7, 8, 9] (by decide +kernel) (by decide +kernel)
set_option maxRecDepth 20000 in
theorem gX6_appendInteger_X6_append : GoodIn wsX6_appendInteger (wsV RX6 19 RX6 yX6_append wsX6_append) := goodIn_app (goodIn_of _ (by decide +kernel)) ggX6_appendInteger_X6_append
theorem dX6_appendInteger_0 : decode cX6_appendInteger 0 = .ok (.bipush 28, 2) := by decide +kernel
theorem dX6_appendInteger_2 : decode cX6_appendInteger 2 = .ok (.istore_n 2, 1) := by decide +kernel
theorem dX6_appendInteger_3 : decode cX6_appendInteger 3 = .ok (.iload_n 2, 1) := by decide +kernel
theorem dX6_appendInteger_4 : decode cX6_appendInteger 4 = .ok (.ifCond .le 29, 3) := by decide +kernel
theorem dX6_appendInteger_7 : decode cX6_appendInteger 7 = .ok (.iload_n 1, 1) := by decide +kernel
theorem dX6_appendInteger_8 : decode cX6_appendInteger 8 = .ok (.iload_n 2, 1) := by decide +kernel
theorem dX6_appendInteger_9 : decode cX6_appendInteger 9 = .ok (.ishr, 1) := by decide +kernel
theorem dX6_appendInteger_10 : decode cX6_appendInteger 10 = .ok (.istore_n 3, 1) := by decide +kernel
theorem dX6_appendInteger_11 : decode cX6_appendInteger 11 = .ok (.iload_n 3, 1) := by decide +kernel
theorem dX6_appendInteger_12 : decode cX6_appendInteger 12 = .ok (.ifCond .le 15, 3) := by decide +kernel
theorem dX6_appendInteger_15 : decode cX6_appendInteger 15 = .ok (.aload_n 0, 1) := by decide +kernel
theorem dX6_appendInteger_16 : decode cX6_appendInteger 16 = .ok (.sipush 128, 3) := by decide +kernel
theorem dX6_appendInteger_19 : decode cX6_appendInteger 19 = .ok (.iload_n 3, 1) := by decide +kernel
theorem dX6_appendInteger_20 : decode cX6_appendInteger 20 = .ok (.bipush 127, 2) := by decide +kernel
theorem dX6_appendInteger_22 : decode cX6_appendInteger 22 = .ok (.iand, 1) := by decide +kernel
theorem dX6_appendInteger_23 : decode cX6_appendInteger 23 = .ok (.iadd, 1) := by decide +kernel
theorem dX6_appendInteger_24 : decode cX6_appendInteger 24 = .ok (.invokevirtual 19, 3) := by decide +kernel
theorem dX6_appendInteger_27 : decode cX6_appendInteger 27 = .ok (.iinc 2 (-7), 3) := by decide +kernel
theorem dX6_appendInteger_30 : decode cX6_appendInteger 30 = .ok (.goto (-27), 3) := by decide +kernel
theorem dX6_appendInteger_33 : decode cX6_appendInteger 33 = .ok (.aload_n 0, 1) := by decide +kernel
theorem dX6_appendInteger_34 : decode cX6_appendInteger 34 = .ok (.iload_n 1, 1) := by decide +kernel
theorem dX6_appendInteger_35 : decode cX6_appendInteger 35 = .ok (.bipush 127, 2) := by decide +kernel
theorem dX6_appendInteger_37 : decode cX6_appendInteger 37 = .ok (.iand, 1) := by decide +kernel
theorem dX6_appendInteger_38 : decode cX6_appendInteger 38 = .ok (.invokevirtual 19, 3) := by decide +kernel
theorem dX6_appendInteger_41 : decode cX6_appendInteger 41 = .ok (.return_, 1) := by decide +kernel
set_option maxRecDepth 20000 in
theorem ggX6_become_X6_appendRow : GoodIn wsX6_become wsX6_appendRow := goodIn_r _ [6, 1, 7, 8, 9, 10, 5, 11, 12, 13] (by decide +kernel) (by decide +kernel)
set_option maxRecDepth 20000 in
theorem gX6_become_X6_appendRow : GoodIn wsX6_become (wsV RX6 23 RX6 yX6_appendRow wsX6_appendRow) := goodIn_app (goodIn_of _ (by decide +kernel)) ggX6_become_X6_appendRow
theorem dX6_become_0 : decode cX6_become 0 = .ok (.aload_n 0, 1) := by decide +kernel
theorem dX6_become_1 : decode cX6_become 1 = .ok (.iconst 0, 1) := by decide +kernel
theorem dX6_become_2 : decode cX6_become 2 = .ok (.putfield 15, 3) := by decide +kernel
theorem dX6_become_5 : decode cX6_become 5 = .ok (.aload_n 0, 1) := by decide +kernel
theorem dX6_become_6 : decode cX6_become 6 = .ok (.aload_n 1, 1) := by decide +kernel
theorem dX6_become_7 : decode cX6_become 7 = .ok (.invokevirtual 23, 3) := by decide +kernel
theorem dX6_become_10 : decode cX6_become 10 = .ok (.return_, 1) := by decide +kernel
set_option maxRecDepth 20000 in
theorem ggX7_init_X6_init : GoodIn wsX7_init wsX6_init := goodIn_r _ [26, 27, 2, 3, 28, 29, 30, 100, 101] (by decide +kernel) (by decide +kernel)
set_option maxRecDepth 20000 in
theorem gX7_init_X6_init : GoodIn wsX7_init (wsX6_init) := ggX7_init_X6_init
set_option maxRecDepth 20000 in
theorem ggX7_init_X3_init : GoodIn wsX7_init wsX3_init := goodIn_r _ [33, 34, 2, 3, 35, 36, 37, 38, 20, 21, 39, 40, 41, 42, 43, 44, 5, 6, 45, 46, 47, 48, 49, 50, 51, 52, 53, 54, 55, 28, 56, 57, 58, 59, 60, 61, 62, 63, 64, 65, 66, 67, 25, 26, 27, 29, 30, 110, 111, 112, 113, 114, 115, 116, 117, 118, 119, 120, 121, 135, 136, 137, 138, 139, 140, 141, 100, 101] (by decide +kernel) (by decide +kernel)
set_option maxRecDepth 20000 in
theorem gX7_init_X3_init : GoodIn wsX7_init (wsX3_init) := ggX7_init_X3_init
set_option maxRecDepth 20000 in
theorem ggX7_init_X2_init : GoodIn wsX7_init wsX2_init := goodIn_r _ [70, 71, 2, 3, 72, 73, 5, 6, 74, 75, 20, 21, 76, 77, 78, 79, 80, 81, 82, 83, 84, 85, 86, 87, 88, 89, 90, 25, 26, 27, 28, 29, 30, 91, 53, 54, 55, 56, 57, 58, 92, 93, 94, 95, 96, 97, 98, 122, 123, 124, 125, 126, 127, 128, 129, 130, 131, 132, 133, 134, 100, 101, 135, 136, 137, 142, 143, 144] (by decide +kernel) (by decide +kernel)
set_option maxRecDepth 20000 in
theorem gX7_init_X2_init : GoodIn wsX7_init (wsX2_init) := ggX7_init_X2_init
set_option maxRecDepth 20000 in
theorem ggX7_init_X0_init : GoodIn wsX7_init wsX0_init := goodIn_r _ [54, 55, 2, 3, 28, 56, 57, 58, 135, 136, 137] (by decide +kernel) (by decide +kernel)
set_option maxRecDepth 20000 in
theorem gX7_init_X0_init : GoodIn wsX7_init (wsX0_init) := ggX7_init_X0_init
theorem dX7_init_0 : decode cX7_init 0 = .ok (.aload_n 0, 1) := by decide +kernel
theorem dX7_init_1 : decode cX7_init 1 = .ok (.invokespecial 1, 3) := by decide +kernel
theorem dX7_init_4 : decode cX7_init 4 = .ok (.aload_n 0, 1) := by decide +kernel
theorem dX7_init_5 : decode cX7_init 5 = .ok (.new 7, 3) := by decide +kernel
theorem dX7_init_8 : decode cX7_init 8 = .ok (.dup, 1) := by decide +kernel
theorem dX7_init_9 : decode cX7_init 9 = .ok (.bipush 48, 2) := by decide +kernel
theorem dX7_init_11 : decode cX7_init 11 = .ok (.invokespecial 11, 3) := by decide +kernel
theorem dX7_init_14 : decode cX7_init 14 = .ok (.putfield 14, 3) := by decide +kernel
theorem dX7_init_17 : decode cX7_init 17 = .ok (.aload_n 0, 1) := by decide +kernel
theorem dX7_init_18 : decode cX7_init 18 = .ok (.new 7, 3) := by decide +kernel
theorem dX7_init_21 : decode cX7_init 21 = .ok (.dup, 1) := by decide +kernel
theorem dX7_init_22 : decode cX7_init 22 = .ok (.bipush 64, 2) := by decide +kernel
theorem dX7_init_24 : decode cX7_init 24 = .ok (.invokespecial 11, 3) := by decide +kernel
theorem dX7_init_27 : decode cX7_init 27 = .ok (.putfield 18, 3) := by decide +kernel
theorem dX7_init_30 : decode cX7_init 30 = .ok (.aload_n 0, 1) := by decide +kernel
theorem dX7_init_31 : decode cX7_init 31 = .ok (.new 7, 3) := by decide +kernel
theorem dX7_init_34 : decode cX7_init 34 = .ok (.dup, 1) := by decide +kernel
theorem dX7_init_35 : decode cX7_init 35 = .ok (.sipush 1000, 3) := by decide +kernel
theorem dX7_init_38 : decode cX7_init 38 = .ok (.invokespecial 11, 3) := by decide +kernel
theorem dX7_init_41 : decode cX7_init 41 = .ok (.putfield 21, 3) := by decide +kernel
theorem dX7_init_44 : decode cX7_init 44 = .ok (.aload_n 0, 1) := by decide +kernel
theorem dX7_init_45 : decode cX7_init 45 = .ok (.new 7, 3) := by decide +kernel
theorem dX7_init_48 : decode cX7_init 48 = .ok (.dup, 1) := by decide +kernel
theorem dX7_init_49 : decode cX7_init 49 = .ok (.sipush 400, 3) := by decide +kernel
theorem dX7_init_52 : decode cX7_init 52 = .ok (.invokespecial 11, 3) := by decide +kernel
theorem dX7_init_55 : decode cX7_init 55 = .ok (.putfield 24, 3) := by decide +kernel
theorem dX7_init_58 : decode cX7_init 58 = .ok (.aload_n 0, 1) := by decide +kernel
theorem dX7_init_59 : decode cX7_init 59 = .ok (.new 27, 3) := by decide +kernel
theorem dX7_init_62 : decode cX7_init 62 = .ok (.dup, 1) := by decide +kernel
theorem dX7_init_63 : decode cX7_init 63 = .ok (.aload_n 0, 1) := by decide +kernel
theorem dX7_init_64 : decode cX7_init 64 = .ok (.getfield 14, 3) := by decide +kernel
theorem dX7_init_67 : decode cX7_init 67 = .ok (.aload_n 0, 1) := by decide +kernel
theorem dX7_init_68 : decode cX7_init 68 = .ok (.getfield 18, 3) := by decide +kernel
theorem dX7_init_71 : decode cX7_init 71 = .ok (.aload_n 0, 1) := by decide +kernel
theorem dX7_init_72 : decode cX7_init 72 = .ok (.getfield 21, 3) := by decide +kernel
theorem dX7_init_75 : decode cX7_init 75 = .ok (.invokespecial 29, 3) := by decide +kernel
theorem dX7_init_78 : decode cX7_init 78 = .ok (.putfield 32, 3) := by decide +kernel
theorem dX7_init_81 : decode cX7_init 81 = .ok (.aload_n 0, 1) := by decide +kernel
theorem dX7_init_82 : decode cX7_init 82 = .ok (.new 36, 3) := by decide +kernel
theorem dX7_init_85 : decode cX7_init 85 = .ok (.dup, 1) := by decide +kernel
theorem dX7_init_86 : decode cX7_init 86 = .ok (.aload_n 0, 1) := by decide +kernel
theorem dX7_init_87 : decode cX7_init 87 = .ok (.getfield 14, 3) := by decide +kernel
theorem dX7_init_90 : decode cX7_init 90 = .ok (.aload_n 0, 1) := by decide +kernel
theorem dX7_init_91 : decode cX7_init 91 = .ok (.getfield 21, 3) := by decide +kernel
theorem dX7_init_94 : decode cX7_init 94 = .ok (.invokespecial 38, 3) := by decide +kernel
theorem dX7_init_97 : decode cX7_init 97 = .ok (.putfield 41, 3) := by decide +kernel
theorem dX7_init_100 : decode cX7_init 100 = .ok (.aload_n 0, 1) := by decide +kernel
theorem dX7_init_101 : decode cX7_init 101 = .ok (.new 45, 3) := by decide +kernel
theorem dX7_init_104 : decode cX7_init 104 = .ok (.dup, 1) := by decide +kernel
theorem dX7_init_105 : decode cX7_init 105 = .ok (.invokespecial 47, 3) := by decide +kernel
theorem dX7_init_108 : decode cX7_init 108 = .ok (.putfield 48, 3) := by decide +kernel
theorem dX7_init_111 : decode cX7_init 111 = .ok (.aload_n 0, 1) := by decide +kernel
theorem dX7_init_112 : decode cX7_init 112 = .ok (.iconst 0, 1) := by decide +kernel
theorem dX7_init_113 : decode cX7_init 113 = .ok (.putfield 52, 3) := by decide +kernel
theorem dX7_init_116 : decode cX7_init 116 = .ok (.return_, 1) := by decide +kernel
set_option maxRecDepth 20000 in
theorem ggX7_put_X7_inputRow : GoodIn wsX7_put wsX7_inputRow := goodIn_r _ [5, 6, 7, 8, 4, 9, 10, 11, 12, 13, 28, 29, 30, 31, 32, 33, 34, 35] (by decide +kernel) (by decide +kernel)
set_option maxRecDepth 20000 in
theorem gX7_put_X7_inputRow : GoodIn wsX7_put (wsV RX7 56 RX7 yX7_inputRow wsX7_inputRow) := goodIn_app (goodIn_of _ (by decide +kernel)) ggX7_put_X7_inputRow
set_option maxRecDepth 20000 in
theorem ggX7_put_X7_isByte : GoodIn wsX7_put wsX7_isByte := goodIn_r _ [16] (by decide +kernel) (by decide +kernel)
set_option maxRecDepth 20000 in
theorem gX7_put_X7_isByte : GoodIn wsX7_put (va_wsS RX7 60 yX7_isByte wsX7_isByte) := goodIn_app (goodIn_of _ (by decide +kernel)) ggX7_put_X7_isByte
set_option maxRecDepth 20000 in
theorem ggX7_put_X6_room : GoodIn wsX7_put wsX6_room := goodIn_r _ [21, 22, 23, 36, 37] (by decide +kernel) (by decide +kernel)
set_option maxRecDepth 20000 in
theorem gX7_put_X6_room : GoodIn wsX7_put (wsV RX7 64 RX6 yX6_room wsX6_room) := goodIn_app (goodIn_of _ (by decide +kernel)) ggX7_put_X6_room
set_option maxRecDepth 20000 in
theorem ggX7_put_X6_append : GoodIn wsX7_put wsX6_append := goodIn_r _ [27, 23, 22, 36, 37] (by decide +kernel) (by decide +kernel)
set_option maxRecDepth 20000 in
theorem gX7_put_X6_append : GoodIn wsX7_put (wsV RX7 68 RX6 yX6_append wsX6_append) := goodIn_app (goodIn_of _ (by decide +kernel)) ggX7_put_X6_append
theorem dX7_put_0 : decode cX7_put 0 = .ok (.aload_n 0, 1) := by decide +kernel
theorem dX7_put_1 : decode cX7_put 1 = .ok (.iload_n 1, 1) := by decide +kernel
theorem dX7_put_2 : decode cX7_put 2 = .ok (.invokevirtual 56, 3) := by decide +kernel
theorem dX7_put_5 : decode cX7_put 5 = .ok (.astore 4, 2) := by decide +kernel
theorem dX7_put_7 : decode cX7_put 7 = .ok (.aload 4, 2) := by decide +kernel
theorem dX7_put_9 : decode cX7_put 9 = .ok (.ifnull 30, 3) := by decide +kernel
theorem dX7_put_12 : decode cX7_put 12 = .ok (.iload_n 2, 1) := by decide +kernel
theorem dX7_put_13 : decode cX7_put 13 = .ok (.invokestatic 60, 3) := by decide +kernel
theorem dX7_put_16 : decode cX7_put 16 = .ok (.ifCond .eq 23, 3) := by decide +kernel
theorem dX7_put_19 : decode cX7_put 19 = .ok (.iload_n 3, 1) := by decide +kernel
theorem dX7_put_20 : decode cX7_put 20 = .ok (.iconst 1, 1) := by decide +kernel
theorem dX7_put_21 : decode cX7_put 21 = .ok (.if_icmp .lt 18, 3) := by decide +kernel
theorem dX7_put_24 : decode cX7_put 24 = .ok (.iload_n 3, 1) := by decide +kernel
theorem dX7_put_25 : decode cX7_put 25 = .ok (.bipush 16, 2) := by decide +kernel
theorem dX7_put_27 : decode cX7_put 27 = .ok (.if_icmp .gt 12, 3) := by decide +kernel
theorem dX7_put_30 : decode cX7_put 30 = .ok (.iload_n 3, 1) := by decide +kernel
theorem dX7_put_31 : decode cX7_put 31 = .ok (.aload 4, 2) := by decide +kernel
theorem dX7_put_33 : decode cX7_put 33 = .ok (.invokevirtual 64, 3) := by decide +kernel
theorem dX7_put_36 : decode cX7_put 36 = .ok (.if_icmp .le 5, 3) := by decide +kernel
theorem dX7_put_39 : decode cX7_put 39 = .ok (.iconst 0, 1) := by decide +kernel
theorem dX7_put_40 : decode cX7_put 40 = .ok (.ireturn, 1) := by decide +kernel
theorem dX7_put_41 : decode cX7_put 41 = .ok (.iconst 0, 1) := by decide +kernel
theorem dX7_put_42 : decode cX7_put 42 = .ok (.istore 5, 2) := by decide +kernel
theorem dX7_put_44 : decode cX7_put 44 = .ok (.iload 5, 2) := by decide +kernel
theorem dX7_put_46 : decode cX7_put 46 = .ok (.iload_n 3, 1) := by decide +kernel
theorem dX7_put_47 : decode cX7_put 47 = .ok (.if_icmp .ge 15, 3) := by decide +kernel
theorem dX7_put_50 : decode cX7_put 50 = .ok (.aload 4, 2) := by decide +kernel
theorem dX7_put_52 : decode cX7_put 52 = .ok (.iload_n 2, 1) := by decide +kernel
theorem dX7_put_53 : decode cX7_put 53 = .ok (.invokevirtual 68, 3) := by decide +kernel
theorem dX7_put_56 : decode cX7_put 56 = .ok (.iinc 5 1, 3) := by decide +kernel
theorem dX7_put_59 : decode cX7_put 59 = .ok (.goto (-15), 3) := by decide +kernel
theorem dX7_put_62 : decode cX7_put 62 = .ok (.iconst 1, 1) := by decide +kernel
theorem dX7_put_63 : decode cX7_put 63 = .ok (.ireturn, 1) := by decide +kernel
set_option maxRecDepth 20000 in
theorem ggX7_cut_X7_inputRow : GoodIn wsX7_cut wsX7_inputRow := goodIn_r _ [5, 6, 7, 8, 4, 9, 10, 11, 12, 13, 24, 25, 26, 27, 28, 29, 30, 31] (by decide +kernel) (by decide +kernel)
set_option maxRecDepth 20000 in
theorem gX7_cut_X7_inputRow : GoodIn wsX7_cut (wsV RX7 56 RX7 yX7_inputRow wsX7_inputRow) := goodIn_app (goodIn_of _ (by decide +kernel)) ggX7_cut_X7_inputRow
set_option maxRecDepth 20000 in
theorem ggX7_cut_X6_count : GoodIn wsX7_cut wsX6_count := goodIn_r _ [18, 19, 32, 33] (by decide +kernel) (by decide +kernel)
set_option maxRecDepth 20000 in
theorem gX7_cut_X6_count : GoodIn wsX7_cut (wsV RX7 71 RX6 yX6_count wsX6_count) := goodIn_app (goodIn_of _ (by decide +kernel)) ggX7_cut_X6_count
set_option maxRecDepth 20000 in
theorem ggX7_cut_X6_keep : GoodIn wsX7_cut wsX6_keep := goodIn_r _ [23, 19, 32, 33] (by decide +kernel) (by decide +kernel)
set_option maxRecDepth 20000 in
theorem gX7_cut_X6_keep : GoodIn wsX7_cut (wsV RX7 74 RX6 yX6_keep wsX6_keep) := goodIn_app (goodIn_of _ (by decide +kernel)) ggX7_cut_X6_keep
theorem dX7_cut_0 : decode cX7_cut 0 = .ok (.aload_n 0, 1) := by decide +kernel
theorem dX7_cut_1 : decode cX7_cut 1 = .ok (.iload_n 1, 1) := by decide +kernel
theorem dX7_cut_2 : decode cX7_cut 2 = .ok (.invokevirtual 56, 3) := by decide +kernel
theorem dX7_cut_5 : decode cX7_cut 5 = .ok (.astore_n 3, 1) := by decide +kernel
theorem dX7_cut_6 : decode cX7_cut 6 = .ok (.aload_n 3, 1) := by decide +kernel
theorem dX7_cut_7 : decode cX7_cut 7 = .ok (.ifnull 15, 3) := by decide +kernel
theorem dX7_cut_10 : decode cX7_cut 10 = .ok (.iload_n 2, 1) := by decide +kernel
theorem dX7_cut_11 : decode cX7_cut 11 = .ok (.ifCond .lt 11, 3) := by decide +kernel
theorem dX7_cut_14 : decode cX7_cut 14 = .ok (.iload_n 2, 1) := by decide +kernel
theorem dX7_cut_15 : decode cX7_cut 15 = .ok (.aload_n 3, 1) := by decide +kernel
theorem dX7_cut_16 : decode cX7_cut 16 = .ok (.invokevirtual 71, 3) := by decide +kernel
theorem dX7_cut_19 : decode cX7_cut 19 = .ok (.if_icmp .le 5, 3) := by decide +kernel
theorem dX7_cut_22 : decode cX7_cut 22 = .ok (.iconst 0, 1) := by decide +kernel
theorem dX7_cut_23 : decode cX7_cut 23 = .ok (.ireturn, 1) := by decide +kernel
theorem dX7_cut_24 : decode cX7_cut 24 = .ok (.aload_n 3, 1) := by decide +kernel
theorem dX7_cut_25 : decode cX7_cut 25 = .ok (.iload_n 2, 1) := by decide +kernel
theorem dX7_cut_26 : decode cX7_cut 26 = .ok (.invokevirtual 74, 3) := by decide +kernel
theorem dX7_cut_29 : decode cX7_cut 29 = .ok (.iconst 1, 1) := by decide +kernel
theorem dX7_cut_30 : decode cX7_cut 30 = .ok (.ireturn, 1) := by decide +kernel
set_option maxRecDepth 20000 in
theorem ggX7_set_X7_inputRow : GoodIn wsX7_set wsX7_inputRow := goodIn_r _ [5, 6, 7, 8, 4, 9, 10, 11, 12, 13, 28, 29, 30, 31, 32, 33, 34, 35] (by decide +kernel) (by decide +kernel)
set_option maxRecDepth 20000 in
theorem gX7_set_X7_inputRow : GoodIn wsX7_set (wsV RX7 56 RX7 yX7_inputRow wsX7_inputRow) := goodIn_app (goodIn_of _ (by decide +kernel)) ggX7_set_X7_inputRow
set_option maxRecDepth 20000 in
theorem ggX7_set_X6_count : GoodIn wsX7_set wsX6_count := goodIn_r _ [18, 19, 36, 37] (by decide +kernel) (by decide +kernel)
set_option maxRecDepth 20000 in
theorem gX7_set_X6_count : GoodIn wsX7_set (wsV RX7 71 RX6 yX6_count wsX6_count) := goodIn_app (goodIn_of _ (by decide +kernel)) ggX7_set_X6_count
set_option maxRecDepth 20000 in
theorem ggX7_set_X7_isByte : GoodIn wsX7_set wsX7_isByte := goodIn_r _ [22] (by decide +kernel) (by decide +kernel)
set_option maxRecDepth 20000 in
theorem gX7_set_X7_isByte : GoodIn wsX7_set (va_wsS RX7 60 yX7_isByte wsX7_isByte) := goodIn_app (goodIn_of _ (by decide +kernel)) ggX7_set_X7_isByte
set_option maxRecDepth 20000 in
theorem ggX7_set_X6_replace : GoodIn wsX7_set wsX6_replace := goodIn_r _ [26, 19, 27, 36, 37] (by decide +kernel) (by decide +kernel)
set_option maxRecDepth 20000 in
theorem gX7_set_X6_replace : GoodIn wsX7_set (wsV RX7 77 RX6 yX6_replace wsX6_replace) := goodIn_app (goodIn_of _ (by decide +kernel)) ggX7_set_X6_replace
theorem dX7_set_0 : decode cX7_set 0 = .ok (.aload_n 0, 1) := by decide +kernel
theorem dX7_set_1 : decode cX7_set 1 = .ok (.iload_n 1, 1) := by decide +kernel
theorem dX7_set_2 : decode cX7_set 2 = .ok (.invokevirtual 56, 3) := by decide +kernel
theorem dX7_set_5 : decode cX7_set 5 = .ok (.astore 4, 2) := by decide +kernel
theorem dX7_set_7 : decode cX7_set 7 = .ok (.aload 4, 2) := by decide +kernel
theorem dX7_set_9 : decode cX7_set 9 = .ok (.ifnull 23, 3) := by decide +kernel
theorem dX7_set_12 : decode cX7_set 12 = .ok (.iload_n 2, 1) := by decide +kernel
theorem dX7_set_13 : decode cX7_set 13 = .ok (.ifCond .lt 19, 3) := by decide +kernel
theorem dX7_set_16 : decode cX7_set 16 = .ok (.iload_n 2, 1) := by decide +kernel
theorem dX7_set_17 : decode cX7_set 17 = .ok (.aload 4, 2) := by decide +kernel
theorem dX7_set_19 : decode cX7_set 19 = .ok (.invokevirtual 71, 3) := by decide +kernel
theorem dX7_set_22 : decode cX7_set 22 = .ok (.if_icmp .ge 10, 3) := by decide +kernel
theorem dX7_set_25 : decode cX7_set 25 = .ok (.iload_n 3, 1) := by decide +kernel
theorem dX7_set_26 : decode cX7_set 26 = .ok (.invokestatic 60, 3) := by decide +kernel
theorem dX7_set_29 : decode cX7_set 29 = .ok (.ifCond .ne 5, 3) := by decide +kernel
theorem dX7_set_32 : decode cX7_set 32 = .ok (.iconst 0, 1) := by decide +kernel
theorem dX7_set_33 : decode cX7_set 33 = .ok (.ireturn, 1) := by decide +kernel
theorem dX7_set_34 : decode cX7_set 34 = .ok (.aload 4, 2) := by decide +kernel
theorem dX7_set_36 : decode cX7_set 36 = .ok (.iload_n 2, 1) := by decide +kernel
theorem dX7_set_37 : decode cX7_set 37 = .ok (.iload_n 3, 1) := by decide +kernel
theorem dX7_set_38 : decode cX7_set 38 = .ok (.invokevirtual 77, 3) := by decide +kernel
theorem dX7_set_41 : decode cX7_set 41 = .ok (.iconst 1, 1) := by decide +kernel
theorem dX7_set_42 : decode cX7_set 42 = .ok (.ireturn, 1) := by decide +kernel
set_option maxRecDepth 20000 in
theorem ggX7_encode_X3_writeDelta : GoodIn wsX7_encode wsX3_writeDelta := goodIn_r _ [7, 8, 9, 10, 11, 12, 13, 14, 15, 16, 17, 18, 19, 20, 21, 22, 23, 24, 25, 26, 27, 28, 29, 30, 31, 32, 33, 34, 35, 36, 37, 38, 39, 40, 41, 42, 43, 44, 45, 46, 47, 6, 48, 49, 50, 51, 52, 53, 54, 55, 56, 57, 58, 59, 60, 61, 62, 63, 64, 65, 66, 67, 68, 69, 70, 71, 72, 73, 74, 75, 76, 77, 78, 79, 80, 81, 82, 83, 84, 85, 86, 87, 88, 89, 90, 91, 92, 93, 94, 95, 96, 97, 98, 99, 100, 101, 102, 103, 104, 105, 106, 107, 108, 109, 110, 111, 112, 113, 114, 115, 116, 117, 118, 119, 120, 121, 122, 123, 124, 125, 126, 127, 128, 129, 130, 131, 132, 133, 134, 135, 136, 137, 138, 139, 140, 141, 142, 143, 144, 145, 146, 147, 148, 149, 150, 151, 152, 153, 154, 155, 156, 157, 158, 159, 160, 161, 162, 163, 164, 165, 166, 167, 168, 169, 170, 171, 172, 173, 174, 175, 176, 177, 178, 179, 180, 181, 191, 192, 193, 194, 195, 196, 197, 198, 199, 200, 201, 202, 203, 204, 205, 206, 207, 208, 209, 210, 211] (by decide +kernel) (by decide +kernel)
set_option maxRecDepth 20000 in
theorem gX7_encode_X3_writeDelta : GoodIn wsX7_encode (wsV RX7 81 RX3 yX3_writeDelta wsX3_writeDelta) := goodIn_app (goodIn_of _ (by decide +kernel)) ggX7_encode_X3_writeDelta
set_option maxRecDepth 20000 in
theorem ggX7_encode_X6_count : GoodIn wsX7_encode wsX6_count := goodIn_r _ [44, 23, 203, 204] (by decide +kernel) (by decide +kernel)
set_option maxRecDepth 20000 in
theorem gX7_encode_X6_count : GoodIn wsX7_encode (wsV RX7 71 RX6 yX6_count wsX6_count) := goodIn_app (goodIn_of _ (by decide +kernel)) ggX7_encode_X6_count
theorem dX7_encode_0 : decode cX7_encode 0 = .ok (.iload_n 1, 1) := by decide +kernel
theorem dX7_encode_1 : decode cX7_encode 1 = .ok (.iconst 1, 1) := by decide +kernel
theorem dX7_encode_2 : decode cX7_encode 2 = .ok (.if_icmp .lt 9, 3) := by decide +kernel
theorem dX7_encode_5 : decode cX7_encode 5 = .ok (.iload_n 1, 1) := by decide +kernel
theorem dX7_encode_6 : decode cX7_encode 6 = .ok (.bipush 64, 2) := by decide +kernel
theorem dX7_encode_8 : decode cX7_encode 8 = .ok (.if_icmp .le 5, 3) := by decide +kernel
theorem dX7_encode_11 : decode cX7_encode 11 = .ok (.iconst (-1), 1) := by decide +kernel
theorem dX7_encode_12 : decode cX7_encode 12 = .ok (.ireturn, 1) := by decide +kernel
theorem dX7_encode_13 : decode cX7_encode 13 = .ok (.aload_n 0, 1) := by decide +kernel
theorem dX7_encode_14 : decode cX7_encode 14 = .ok (.getfield 32, 3) := by decide +kernel
theorem dX7_encode_17 : decode cX7_encode 17 = .ok (.iload_n 1, 1) := by decide +kernel
theorem dX7_encode_18 : decode cX7_encode 18 = .ok (.invokevirtual 81, 3) := by decide +kernel
theorem dX7_encode_21 : decode cX7_encode 21 = .ok (.aload_n 0, 1) := by decide +kernel
theorem dX7_encode_22 : decode cX7_encode 22 = .ok (.getfield 21, 3) := by decide +kernel
theorem dX7_encode_25 : decode cX7_encode 25 = .ok (.invokevirtual 71, 3) := by decide +kernel
theorem dX7_encode_28 : decode cX7_encode 28 = .ok (.ireturn, 1) := by decide +kernel
set_option maxRecDepth 20000 in
theorem ggX7_decode_X2_readDelta : GoodIn wsX7_decode wsX2_readDelta := goodIn_r _ [9, 10, 11, 12, 13, 14, 15, 16, 17, 18, 19, 20, 21, 22, 23, 24, 25, 26, 27, 28, 29, 30, 31, 32, 33, 34, 35, 36, 37, 38, 39, 40, 41, 42, 43, 44, 45, 46, 47, 48, 49, 8, 50, 51, 52, 53, 54, 55, 56, 57, 58, 59, 60, 61, 62, 63, 64, 65, 66, 67, 68, 69, 70, 71, 72, 73, 74, 75, 76, 77, 78, 79, 80, 81, 82, 83, 84, 85, 86, 87, 88, 89, 90, 91, 92, 93, 94, 95, 96, 97, 98, 99, 100, 101, 102, 103, 104, 105, 106, 107, 108, 109, 110, 111, 112, 113, 114, 115, 116, 117, 118, 119, 120, 121, 122, 123, 124, 125, 126, 127, 128, 129, 130, 131, 132, 133, 134, 135, 136, 137, 138, 139, 140, 141, 142, 143, 144, 145, 146, 147, 148, 149, 150, 151, 152, 153, 154, 155, 156, 157, 158, 159, 160, 161, 162, 163, 164, 165, 191, 192, 193, 194, 195, 196, 197, 198, 199, 200, 201, 202, 203, 204, 205, 206, 207, 208, 209, 210, 211] (by decide +kernel) (by decide +kernel)
set_option maxRecDepth 20000 in
theorem gX7_decode_X2_readDelta : GoodIn wsX7_decode (wsV RX7 84 RX2 yX2_readDelta wsX2_readDelta) := goodIn_app (goodIn_of _ (by decide +kernel)) ggX7_decode_X2_readDelta
set_option maxRecDepth 20000 in
theorem ggX7_decode_X6_become : GoodIn wsX7_decode wsX6_become := goodIn_r _ [169, 19, 170, 171, 172, 17, 173, 124, 174, 121, 122, 123, 204, 205] (by decide +kernel) (by decide +kernel)
set_option maxRecDepth 20000 in
theorem gX7_decode_X6_become : GoodIn wsX7_decode (wsV RX7 91 RX6 yX6_become wsX6_become) := goodIn_app (goodIn_of _ (by decide +kernel)) ggX7_decode_X6_become
set_option maxRecDepth 20000 in
theorem ggX7_decode_X0_become : GoodIn wsX7_decode wsX0_become := goodIn_r _ [178, 25, 179, 180, 181, 182, 26, 27, 206, 207, 208] (by decide +kernel) (by decide +kernel)
set_option maxRecDepth 20000 in
theorem gX7_decode_X0_become : GoodIn wsX7_decode (wsV RX7 98 RX0 yX0_become wsX0_become) := goodIn_app (goodIn_of _ (by decide +kernel)) ggX7_decode_X0_become
theorem dX7_decode_0 : decode cX7_decode 0 = .ok (.iload_n 1, 1) := by decide +kernel
theorem dX7_decode_1 : decode cX7_decode 1 = .ok (.ifCond .lt 10, 3) := by decide +kernel
theorem dX7_decode_4 : decode cX7_decode 4 = .ok (.iload_n 1, 1) := by decide +kernel
theorem dX7_decode_5 : decode cX7_decode 5 = .ok (.sipush 400, 3) := by decide +kernel
theorem dX7_decode_8 : decode cX7_decode 8 = .ok (.if_icmp .le 5, 3) := by decide +kernel
theorem dX7_decode_11 : decode cX7_decode 11 = .ok (.iconst (-1), 1) := by decide +kernel
theorem dX7_decode_12 : decode cX7_decode 12 = .ok (.ireturn, 1) := by decide +kernel
theorem dX7_decode_13 : decode cX7_decode 13 = .ok (.aload_n 0, 1) := by decide +kernel
theorem dX7_decode_14 : decode cX7_decode 14 = .ok (.getfield 41, 3) := by decide +kernel
theorem dX7_decode_17 : decode cX7_decode 17 = .ok (.iload_n 1, 1) := by decide +kernel
theorem dX7_decode_18 : decode cX7_decode 18 = .ok (.invokevirtual 84, 3) := by decide +kernel
theorem dX7_decode_21 : decode cX7_decode 21 = .ok (.istore_n 2, 1) := by decide +kernel
theorem dX7_decode_22 : decode cX7_decode 22 = .ok (.iload_n 2, 1) := by decide +kernel
theorem dX7_decode_23 : decode cX7_decode 23 = .ok (.ifCond .lt 42, 3) := by decide +kernel
theorem dX7_decode_26 : decode cX7_decode 26 = .ok (.aload_n 0, 1) := by decide +kernel
theorem dX7_decode_27 : decode cX7_decode 27 = .ok (.getfield 24, 3) := by decide +kernel
theorem dX7_decode_30 : decode cX7_decode 30 = .ok (.aload_n 0, 1) := by decide +kernel
theorem dX7_decode_31 : decode cX7_decode 31 = .ok (.getfield 41, 3) := by decide +kernel
theorem dX7_decode_34 : decode cX7_decode 34 = .ok (.getfield 88, 3) := by decide +kernel
theorem dX7_decode_37 : decode cX7_decode 37 = .ok (.invokevirtual 91, 3) := by decide +kernel
theorem dX7_decode_40 : decode cX7_decode 40 = .ok (.aload_n 0, 1) := by decide +kernel
theorem dX7_decode_41 : decode cX7_decode 41 = .ok (.getfield 48, 3) := by decide +kernel
theorem dX7_decode_44 : decode cX7_decode 44 = .ok (.aload_n 0, 1) := by decide +kernel
theorem dX7_decode_45 : decode cX7_decode 45 = .ok (.getfield 41, 3) := by decide +kernel
theorem dX7_decode_48 : decode cX7_decode 48 = .ok (.getfield 95, 3) := by decide +kernel
theorem dX7_decode_51 : decode cX7_decode 51 = .ok (.invokevirtual 98, 3) := by decide +kernel
theorem dX7_decode_54 : decode cX7_decode 54 = .ok (.aload_n 0, 1) := by decide +kernel
theorem dX7_decode_55 : decode cX7_decode 55 = .ok (.aload_n 0, 1) := by decide +kernel
theorem dX7_decode_56 : decode cX7_decode 56 = .ok (.getfield 41, 3) := by decide +kernel
theorem dX7_decode_59 : decode cX7_decode 59 = .ok (.getfield 101, 3) := by decide +kernel
theorem dX7_decode_62 : decode cX7_decode 62 = .ok (.putfield 52, 3) := by decide +kernel
theorem dX7_decode_65 : decode cX7_decode 65 = .ok (.iload_n 2, 1) := by decide +kernel
theorem dX7_decode_66 : decode cX7_decode 66 = .ok (.ireturn, 1) := by decide +kernel
set_option maxRecDepth 20000 in
theorem ggX7_length_X7_anyRow : GoodIn wsX7_length wsX7_anyRow := goodIn_r _ [5, 6, 7, 8, 9, 16, 17, 18, 19, 20, 21, 22, 23] (by decide +kernel) (by decide +kernel)
set_option maxRecDepth 20000 in
theorem gX7_length_X7_anyRow : GoodIn wsX7_length (wsV RX7 104 RX7 yX7_anyRow wsX7_anyRow) := goodIn_app (goodIn_of _ (by decide +kernel)) ggX7_length_X7_anyRow
set_option maxRecDepth 20000 in
theorem ggX7_length_X6_count : GoodIn wsX7_length wsX6_count := goodIn_r _ [14, 15, 24, 25] (by decide +kernel) (by decide +kernel)
set_option maxRecDepth 20000 in
theorem gX7_length_X6_count : GoodIn wsX7_length (wsV RX7 71 RX6 yX6_count wsX6_count) := goodIn_app (goodIn_of _ (by decide +kernel)) ggX7_length_X6_count
theorem dX7_length_0 : decode cX7_length 0 = .ok (.aload_n 0, 1) := by decide +kernel
theorem dX7_length_1 : decode cX7_length 1 = .ok (.iload_n 1, 1) := by decide +kernel
theorem dX7_length_2 : decode cX7_length 2 = .ok (.invokevirtual 104, 3) := by decide +kernel
theorem dX7_length_5 : decode cX7_length 5 = .ok (.astore_n 2, 1) := by decide +kernel
theorem dX7_length_6 : decode cX7_length 6 = .ok (.aload_n 2, 1) := by decide +kernel
theorem dX7_length_7 : decode cX7_length 7 = .ok (.ifnonnull 7, 3) := by decide +kernel
theorem dX7_length_10 : decode cX7_length 10 = .ok (.iconst (-1), 1) := by decide +kernel
theorem dX7_length_11 : decode cX7_length 11 = .ok (.goto 7, 3) := by decide +kernel
theorem dX7_length_14 : decode cX7_length 14 = .ok (.aload_n 2, 1) := by decide +kernel
theorem dX7_length_15 : decode cX7_length 15 = .ok (.invokevirtual 71, 3) := by decide +kernel
theorem dX7_length_18 : decode cX7_length 18 = .ok (.ireturn, 1) := by decide +kernel
set_option maxRecDepth 20000 in
theorem ggX7_byteAt_X7_anyRow : GoodIn wsX7_byteAt wsX7_anyRow := goodIn_r _ [5, 6, 7, 8, 9, 21, 22, 23, 24, 25, 26, 27, 28] (by decide +kernel) (by decide +kernel)
set_option maxRecDepth 20000 in
theorem gX7_byteAt_X7_anyRow : GoodIn wsX7_byteAt (wsV RX7 104 RX7 yX7_anyRow wsX7_anyRow) := goodIn_app (goodIn_of _ (by decide +kernel)) ggX7_byteAt_X7_anyRow
set_option maxRecDepth 20000 in
theorem ggX7_byteAt_X6_count : GoodIn wsX7_byteAt wsX6_count := goodIn_r _ [14, 15, 29, 30] (by decide +kernel) (by decide +kernel)
set_option maxRecDepth 20000 in
theorem gX7_byteAt_X6_count : GoodIn wsX7_byteAt (wsV RX7 71 RX6 yX6_count wsX6_count) := goodIn_app (goodIn_of _ (by decide +kernel)) ggX7_byteAt_X6_count
set_option maxRecDepth 20000 in
theorem ggX7_byteAt_X6_at : GoodIn wsX7_byteAt wsX6_at := goodIn_r _ [19, 15, 20, 29, 30] (by decide +kernel) (by decide +kernel)
set_option maxRecDepth 20000 in
theorem gX7_byteAt_X6_at : GoodIn wsX7_byteAt (wsV RX7 107 RX6 yX6_at wsX6_at) := goodIn_app (goodIn_of _ (by decide +kernel)) ggX7_byteAt_X6_at
theorem dX7_byteAt_0 : decode cX7_byteAt 0 = .ok (.aload_n 0, 1) := by decide +kernel
theorem dX7_byteAt_1 : decode cX7_byteAt 1 = .ok (.iload_n 1, 1) := by decide +kernel
theorem dX7_byteAt_2 : decode cX7_byteAt 2 = .ok (.invokevirtual 104, 3) := by decide +kernel
theorem dX7_byteAt_5 : decode cX7_byteAt 5 = .ok (.astore_n 3, 1) := by decide +kernel
theorem dX7_byteAt_6 : decode cX7_byteAt 6 = .ok (.aload_n 3, 1) := by decide +kernel
theorem dX7_byteAt_7 : decode cX7_byteAt 7 = .ok (.ifnull 15, 3) := by decide +kernel
theorem dX7_byteAt_10 : decode cX7_byteAt 10 = .ok (.iload_n 2, 1) := by decide +kernel
theorem dX7_byteAt_11 : decode cX7_byteAt 11 = .ok (.ifCond .lt 11, 3) := by decide +kernel
theorem dX7_byteAt_14 : decode cX7_byteAt 14 = .ok (.iload_n 2, 1) := by decide +kernel
theorem dX7_byteAt_15 : decode cX7_byteAt 15 = .ok (.aload_n 3, 1) := by decide +kernel
theorem dX7_byteAt_16 : decode cX7_byteAt 16 = .ok (.invokevirtual 71, 3) := by decide +kernel
theorem dX7_byteAt_19 : decode cX7_byteAt 19 = .ok (.if_icmp .lt 7, 3) := by decide +kernel
theorem dX7_byteAt_22 : decode cX7_byteAt 22 = .ok (.iconst (-1), 1) := by decide +kernel
theorem dX7_byteAt_23 : decode cX7_byteAt 23 = .ok (.goto 8, 3) := by decide +kernel
theorem dX7_byteAt_26 : decode cX7_byteAt 26 = .ok (.aload_n 3, 1) := by decide +kernel
theorem dX7_byteAt_27 : decode cX7_byteAt 27 = .ok (.iload_n 2, 1) := by decide +kernel
theorem dX7_byteAt_28 : decode cX7_byteAt 28 = .ok (.invokevirtual 107, 3) := by decide +kernel
theorem dX7_byteAt_31 : decode cX7_byteAt 31 = .ok (.ireturn, 1) := by decide +kernel
set_option maxRecDepth 20000 in
theorem ggX7_code_X1_partOf : GoodIn wsX7_code wsX1_partOf := goodIn_r _ [4, 5, 6, 3, 7, 8, 9, 10, 11, 12, 13] (by decide +kernel) (by decide +kernel)
set_option maxRecDepth 20000 in
theorem gX7_code_X1_partOf : GoodIn wsX7_code (va_wsS RX7 110 yX1_partOf wsX1_partOf) := goodIn_app (goodIn_of _ (by decide +kernel)) ggX7_code_X1_partOf
theorem dX7_code_0 : decode cX7_code 0 = .ok (.iload_n 1, 1) := by decide +kernel
theorem dX7_code_1 : decode cX7_code 1 = .ok (.ifCond .lt 19, 3) := by decide +kernel
theorem dX7_code_4 : decode cX7_code 4 = .ok (.iload_n 1, 1) := by decide +kernel
theorem dX7_code_5 : decode cX7_code 5 = .ok (.sipush 255, 3) := by decide +kernel
theorem dX7_code_8 : decode cX7_code 8 = .ok (.if_icmp .gt 12, 3) := by decide +kernel
theorem dX7_code_11 : decode cX7_code 11 = .ok (.iload_n 2, 1) := by decide +kernel
theorem dX7_code_12 : decode cX7_code 12 = .ok (.ifCond .lt 8, 3) := by decide +kernel
theorem dX7_code_15 : decode cX7_code 15 = .ok (.iload_n 2, 1) := by decide +kernel
theorem dX7_code_16 : decode cX7_code 16 = .ok (.iconst 5, 1) := by decide +kernel
theorem dX7_code_17 : decode cX7_code 17 = .ok (.if_icmp .le 5, 3) := by decide +kernel
theorem dX7_code_20 : decode cX7_code 20 = .ok (.iconst (-1), 1) := by decide +kernel
theorem dX7_code_21 : decode cX7_code 21 = .ok (.ireturn, 1) := by decide +kernel
theorem dX7_code_22 : decode cX7_code 22 = .ok (.iload_n 1, 1) := by decide +kernel
theorem dX7_code_23 : decode cX7_code 23 = .ok (.iload_n 2, 1) := by decide +kernel
theorem dX7_code_24 : decode cX7_code 24 = .ok (.invokestatic 110, 3) := by decide +kernel
theorem dX7_code_27 : decode cX7_code 27 = .ok (.ireturn, 1) := by decide +kernel
set_option maxRecDepth 20000 in
theorem ggX7_cache_X0_near : GoodIn wsX7_cache wsX0_near := goodIn_r _ [7, 8, 34, 35, 36] (by decide +kernel) (by decide +kernel)
set_option maxRecDepth 20000 in
theorem gX7_cache_X0_near : GoodIn wsX7_cache (wsV RX7 117 RX0 yX0_near wsX0_near) := goodIn_app (goodIn_of _ (by decide +kernel)) ggX7_cache_X0_near
set_option maxRecDepth 20000 in
theorem ggX7_cache_X0_same : GoodIn wsX7_cache wsX0_same := goodIn_r _ [12, 13, 34, 35, 36] (by decide +kernel) (by decide +kernel)
set_option maxRecDepth 20000 in
theorem gX7_cache_X0_same : GoodIn wsX7_cache (wsV RX7 120 RX0 yX0_same wsX0_same) := goodIn_app (goodIn_of _ (by decide +kernel)) ggX7_cache_X0_same
theorem dX7_cache_0 : decode cX7_cache 0 = .ok (.iload_n 1, 1) := by decide +kernel
theorem dX7_cache_1 : decode cX7_cache 1 = .ok (.ifCond .lt 19, 3) := by decide +kernel
theorem dX7_cache_4 : decode cX7_cache 4 = .ok (.iload_n 1, 1) := by decide +kernel
theorem dX7_cache_5 : decode cX7_cache 5 = .ok (.iconst 1, 1) := by decide +kernel
theorem dX7_cache_6 : decode cX7_cache 6 = .ok (.if_icmp .gt 14, 3) := by decide +kernel
theorem dX7_cache_9 : decode cX7_cache 9 = .ok (.iload_n 2, 1) := by decide +kernel
theorem dX7_cache_10 : decode cX7_cache 10 = .ok (.ifCond .lt 10, 3) := by decide +kernel
theorem dX7_cache_13 : decode cX7_cache 13 = .ok (.iload_n 2, 1) := by decide +kernel
theorem dX7_cache_14 : decode cX7_cache 14 = .ok (.sipush 772, 3) := by decide +kernel
theorem dX7_cache_17 : decode cX7_cache 17 = .ok (.if_icmp .lt 5, 3) := by decide +kernel
theorem dX7_cache_20 : decode cX7_cache 20 = .ok (.iconst (-1), 1) := by decide +kernel
theorem dX7_cache_21 : decode cX7_cache 21 = .ok (.ireturn, 1) := by decide +kernel
theorem dX7_cache_22 : decode cX7_cache 22 = .ok (.iload_n 1, 1) := by decide +kernel
theorem dX7_cache_23 : decode cX7_cache 23 = .ok (.ifCond .ne 13, 3) := by decide +kernel
theorem dX7_cache_26 : decode cX7_cache 26 = .ok (.aload_n 0, 1) := by decide +kernel
theorem dX7_cache_27 : decode cX7_cache 27 = .ok (.getfield 32, 3) := by decide +kernel
theorem dX7_cache_30 : decode cX7_cache 30 = .ok (.getfield 116, 3) := by decide +kernel
theorem dX7_cache_33 : decode cX7_cache 33 = .ok (.goto 7, 3) := by decide +kernel
theorem dX7_cache_36 : decode cX7_cache 36 = .ok (.aload_n 0, 1) := by decide +kernel
theorem dX7_cache_37 : decode cX7_cache 37 = .ok (.getfield 48, 3) := by decide +kernel
theorem dX7_cache_40 : decode cX7_cache 40 = .ok (.astore_n 3, 1) := by decide +kernel
theorem dX7_cache_41 : decode cX7_cache 41 = .ok (.iload_n 2, 1) := by decide +kernel
theorem dX7_cache_42 : decode cX7_cache 42 = .ok (.iconst 4, 1) := by decide +kernel
theorem dX7_cache_43 : decode cX7_cache 43 = .ok (.if_icmp .ge 11, 3) := by decide +kernel
theorem dX7_cache_46 : decode cX7_cache 46 = .ok (.aload_n 3, 1) := by decide +kernel
theorem dX7_cache_47 : decode cX7_cache 47 = .ok (.iload_n 2, 1) := by decide +kernel
theorem dX7_cache_48 : decode cX7_cache 48 = .ok (.invokevirtual 117, 3) := by decide +kernel
theorem dX7_cache_51 : decode cX7_cache 51 = .ok (.goto 10, 3) := by decide +kernel
theorem dX7_cache_54 : decode cX7_cache 54 = .ok (.aload_n 3, 1) := by decide +kernel
theorem dX7_cache_55 : decode cX7_cache 55 = .ok (.iload_n 2, 1) := by decide +kernel
theorem dX7_cache_56 : decode cX7_cache 56 = .ok (.iconst 4, 1) := by decide +kernel
theorem dX7_cache_57 : decode cX7_cache 57 = .ok (.isub, 1) := by decide +kernel
theorem dX7_cache_58 : decode cX7_cache 58 = .ok (.invokevirtual 120, 3) := by decide +kernel
theorem dX7_cache_61 : decode cX7_cache 61 = .ok (.ireturn, 1) := by decide +kernel
theorem dX7_windows_0 : decode cX7_windows 0 = .ok (.aload_n 0, 1) := by decide +kernel
theorem dX7_windows_1 : decode cX7_windows 1 = .ok (.getfield 52, 3) := by decide +kernel
theorem dX7_windows_4 : decode cX7_windows 4 = .ok (.ireturn, 1) := by decide +kernel
set_option maxRecDepth 20000 in
theorem ggX7_agrees_X6_count : GoodIn wsX7_agrees wsX6_count := goodIn_r _ [7, 8, 22, 23] (by decide +kernel) (by decide +kernel)
set_option maxRecDepth 20000 in
theorem gX7_agrees_X6_count : GoodIn wsX7_agrees (wsV RX7 71 RX6 yX6_count wsX6_count) := goodIn_app (goodIn_of _ (by decide +kernel)) ggX7_agrees_X6_count
set_option maxRecDepth 20000 in
theorem ggX7_agrees_X6_at : GoodIn wsX7_agrees wsX6_at := goodIn_r _ [12, 8, 13, 22, 23] (by decide +kernel) (by decide +kernel)
set_option maxRecDepth 20000 in
theorem gX7_agrees_X6_at : GoodIn wsX7_agrees (wsV RX7 107 RX6 yX6_at wsX6_at) := goodIn_app (goodIn_of _ (by decide +kernel)) ggX7_agrees_X6_at
theorem dX7_agrees_0 : decode cX7_agrees 0 = .ok (.aload_n 0, 1) := by decide +kernel
theorem dX7_agrees_1 : decode cX7_agrees 1 = .ok (.getfield 24, 3) := by decide +kernel
theorem dX7_agrees_4 : decode cX7_agrees 4 = .ok (.invokevirtual 71, 3) := by decide +kernel
theorem dX7_agrees_7 : decode cX7_agrees 7 = .ok (.aload_n 0, 1) := by decide +kernel
theorem dX7_agrees_8 : decode cX7_agrees 8 = .ok (.getfield 18, 3) := by decide +kernel
theorem dX7_agrees_11 : decode cX7_agrees 11 = .ok (.invokevirtual 71, 3) := by decide +kernel
theorem dX7_agrees_14 : decode cX7_agrees 14 = .ok (.if_icmp .eq 5, 3) := by decide +kernel
theorem dX7_agrees_17 : decode cX7_agrees 17 = .ok (.iconst 0, 1) := by decide +kernel
theorem dX7_agrees_18 : decode cX7_agrees 18 = .ok (.ireturn, 1) := by decide +kernel
theorem dX7_agrees_19 : decode cX7_agrees 19 = .ok (.iconst 0, 1) := by decide +kernel
theorem dX7_agrees_20 : decode cX7_agrees 20 = .ok (.istore_n 1, 1) := by decide +kernel
theorem dX7_agrees_21 : decode cX7_agrees 21 = .ok (.iload_n 1, 1) := by decide +kernel
theorem dX7_agrees_22 : decode cX7_agrees 22 = .ok (.aload_n 0, 1) := by decide +kernel
theorem dX7_agrees_23 : decode cX7_agrees 23 = .ok (.getfield 18, 3) := by decide +kernel
theorem dX7_agrees_26 : decode cX7_agrees 26 = .ok (.invokevirtual 71, 3) := by decide +kernel
theorem dX7_agrees_29 : decode cX7_agrees 29 = .ok (.if_icmp .ge 30, 3) := by decide +kernel
theorem dX7_agrees_32 : decode cX7_agrees 32 = .ok (.aload_n 0, 1) := by decide +kernel
theorem dX7_agrees_33 : decode cX7_agrees 33 = .ok (.getfield 24, 3) := by decide +kernel
theorem dX7_agrees_36 : decode cX7_agrees 36 = .ok (.iload_n 1, 1) := by decide +kernel
theorem dX7_agrees_37 : decode cX7_agrees 37 = .ok (.invokevirtual 107, 3) := by decide +kernel
theorem dX7_agrees_40 : decode cX7_agrees 40 = .ok (.aload_n 0, 1) := by decide +kernel
theorem dX7_agrees_41 : decode cX7_agrees 41 = .ok (.getfield 18, 3) := by decide +kernel
theorem dX7_agrees_44 : decode cX7_agrees 44 = .ok (.iload_n 1, 1) := by decide +kernel
theorem dX7_agrees_45 : decode cX7_agrees 45 = .ok (.invokevirtual 107, 3) := by decide +kernel
theorem dX7_agrees_48 : decode cX7_agrees 48 = .ok (.if_icmp .eq 5, 3) := by decide +kernel
theorem dX7_agrees_51 : decode cX7_agrees 51 = .ok (.iconst 0, 1) := by decide +kernel
theorem dX7_agrees_52 : decode cX7_agrees 52 = .ok (.ireturn, 1) := by decide +kernel
theorem dX7_agrees_53 : decode cX7_agrees 53 = .ok (.iinc 1 1, 3) := by decide +kernel
theorem dX7_agrees_56 : decode cX7_agrees 56 = .ok (.goto (-35), 3) := by decide +kernel
theorem dX7_agrees_59 : decode cX7_agrees 59 = .ok (.iconst 1, 1) := by decide +kernel
theorem dX7_agrees_60 : decode cX7_agrees 60 = .ok (.ireturn, 1) := by decide +kernel
theorem dX7_isByte_0 : decode cX7_isByte 0 = .ok (.iload_n 0, 1) := by decide +kernel
theorem dX7_isByte_1 : decode cX7_isByte 1 = .ok (.ifCond .lt 14, 3) := by decide +kernel
theorem dX7_isByte_4 : decode cX7_isByte 4 = .ok (.iload_n 0, 1) := by decide +kernel
theorem dX7_isByte_5 : decode cX7_isByte 5 = .ok (.sipush 255, 3) := by decide +kernel
theorem dX7_isByte_8 : decode cX7_isByte 8 = .ok (.if_icmp .gt 7, 3) := by decide +kernel
theorem dX7_isByte_11 : decode cX7_isByte 11 = .ok (.iconst 1, 1) := by decide +kernel
theorem dX7_isByte_12 : decode cX7_isByte 12 = .ok (.goto 4, 3) := by decide +kernel
theorem dX7_isByte_15 : decode cX7_isByte 15 = .ok (.iconst 0, 1) := by decide +kernel
theorem dX7_isByte_16 : decode cX7_isByte 16 = .ok (.ireturn, 1) := by decide +kernel
set_option maxRecDepth 20000 in
theorem ggX7_inputRow_X7_anyRow : GoodIn wsX7_inputRow wsX7_anyRow := goodIn_r _ [5, 6, 7, 8, 9, 10, 11, 12, 13, 14, 15, 16, 17] (by decide +kernel) (by decide +kernel)
set_option maxRecDepth 20000 in
theorem gX7_inputRow_X7_anyRow : GoodIn wsX7_inputRow (wsV RX7 104 RX7 yX7_anyRow wsX7_anyRow) := goodIn_app (goodIn_of _ (by decide +kernel)) ggX7_inputRow_X7_anyRow
theorem dX7_inputRow_0 : decode cX7_inputRow 0 = .ok (.iload_n 1, 1) := by decide +kernel
theorem dX7_inputRow_1 : decode cX7_inputRow 1 = .ok (.iconst 3, 1) := by decide +kernel
theorem dX7_inputRow_2 : decode cX7_inputRow 2 = .ok (.if_icmp .ne 7, 3) := by decide +kernel
theorem dX7_inputRow_5 : decode cX7_inputRow 5 = .ok (.aconst_null, 1) := by decide +kernel
theorem dX7_inputRow_6 : decode cX7_inputRow 6 = .ok (.goto 8, 3) := by decide +kernel
theorem dX7_inputRow_9 : decode cX7_inputRow 9 = .ok (.aload_n 0, 1) := by decide +kernel
theorem dX7_inputRow_10 : decode cX7_inputRow 10 = .ok (.iload_n 1, 1) := by decide +kernel
theorem dX7_inputRow_11 : decode cX7_inputRow 11 = .ok (.invokevirtual 104, 3) := by decide +kernel
theorem dX7_inputRow_14 : decode cX7_inputRow 14 = .ok (.areturn, 1) := by decide +kernel
theorem dX7_anyRow_0 : decode cX7_anyRow 0 = .ok (.iload_n 1, 1) := by decide +kernel
theorem dX7_anyRow_1 : decode cX7_anyRow 1 = .ok (.tableswitch 51 0 3 #[31, 36, 41, 46], 31) := by decide +kernel
theorem dX7_anyRow_32 : decode cX7_anyRow 32 = .ok (.aload_n 0, 1) := by decide +kernel
theorem dX7_anyRow_33 : decode cX7_anyRow 33 = .ok (.getfield 14, 3) := by decide +kernel
theorem dX7_anyRow_36 : decode cX7_anyRow 36 = .ok (.areturn, 1) := by decide +kernel
theorem dX7_anyRow_37 : decode cX7_anyRow 37 = .ok (.aload_n 0, 1) := by decide +kernel
theorem dX7_anyRow_38 : decode cX7_anyRow 38 = .ok (.getfield 18, 3) := by decide +kernel
theorem dX7_anyRow_41 : decode cX7_anyRow 41 = .ok (.areturn, 1) := by decide +kernel
theorem dX7_anyRow_42 : decode cX7_anyRow 42 = .ok (.aload_n 0, 1) := by decide +kernel
theorem dX7_anyRow_43 : decode cX7_anyRow 43 = .ok (.getfield 21, 3) := by decide +kernel
theorem dX7_anyRow_46 : decode cX7_anyRow 46 = .ok (.areturn, 1) := by decide +kernel
theorem dX7_anyRow_47 : decode cX7_anyRow 47 = .ok (.aload_n 0, 1) := by decide +kernel
theorem dX7_anyRow_48 : decode cX7_anyRow 48 = .ok (.getfield 24, 3) := by decide +kernel
theorem dX7_anyRow_51 : decode cX7_anyRow 51 = .ok (.areturn, 1) := by decide +kernel
theorem dX7_anyRow_52 : decode cX7_anyRow 52 = .ok (.aconst_null, 1) := by decide +kernel
theorem dX7_anyRow_53 : decode cX7_anyRow 53 = .ok (.areturn, 1) := by decide +kernel
theorem dX8_init_0 : decode cX8_init 0 = .ok (.aload_n 0, 1) := by decide +kernel
theorem dX8_init_1 : decode cX8_init 1 = .ok (.invokespecial 1, 3) := by decide +kernel
theorem dX8_init_4 : decode cX8_init 4 = .ok (.aload_n 0, 1) := by decide +kernel
theorem dX8_init_5 : decode cX8_init 5 = .ok (.sipush 5000, 3) := by decide +kernel
theorem dX8_init_8 : decode cX8_init 8 = .ok (.newarray .int, 2) := by decide +kernel
theorem dX8_init_10 : decode cX8_init 10 = .ok (.putfield 7, 3) := by decide +kernel
theorem dX8_init_13 : decode cX8_init 13 = .ok (.aload_n 0, 1) := by decide +kernel
theorem dX8_init_14 : decode cX8_init 14 = .ok (.iconst 5, 1) := by decide +kernel
theorem dX8_init_15 : decode cX8_init 15 = .ok (.newarray .int, 2) := by decide +kernel
theorem dX8_init_17 : decode cX8_init 17 = .ok (.putfield 13, 3) := by decide +kernel
theorem dX8_init_20 : decode cX8_init 20 = .ok (.aload_n 0, 1) := by decide +kernel
theorem dX8_init_21 : decode cX8_init 21 = .ok (.iconst 4, 1) := by decide +kernel
theorem dX8_init_22 : decode cX8_init 22 = .ok (.newarray .int, 2) := by decide +kernel
theorem dX8_init_24 : decode cX8_init 24 = .ok (.putfield 16, 3) := by decide +kernel
theorem dX8_init_27 : decode cX8_init 27 = .ok (.aload_n 0, 1) := by decide +kernel
theorem dX8_init_28 : decode cX8_init 28 = .ok (.sipush 768, 3) := by decide +kernel
theorem dX8_init_31 : decode cX8_init 31 = .ok (.newarray .int, 2) := by decide +kernel
theorem dX8_init_33 : decode cX8_init 33 = .ok (.putfield 19, 3) := by decide +kernel
theorem dX8_init_36 : decode cX8_init 36 = .ok (.aload_n 0, 1) := by decide +kernel
theorem dX8_init_37 : decode cX8_init 37 = .ok (.sipush 1544, 3) := by decide +kernel
theorem dX8_init_40 : decode cX8_init 40 = .ok (.newarray .int, 2) := by decide +kernel
theorem dX8_init_42 : decode cX8_init 42 = .ok (.putfield 22, 3) := by decide +kernel
theorem dX8_init_45 : decode cX8_init 45 = .ok (.aload_n 0, 1) := by decide +kernel
theorem dX8_init_46 : decode cX8_init 46 = .ok (.bipush 64, 2) := by decide +kernel
theorem dX8_init_48 : decode cX8_init 48 = .ok (.newarray .int, 2) := by decide +kernel
theorem dX8_init_50 : decode cX8_init 50 = .ok (.putfield 25, 3) := by decide +kernel
theorem dX8_init_53 : decode cX8_init 53 = .ok (.aload_n 0, 1) := by decide +kernel
theorem dX8_init_54 : decode cX8_init 54 = .ok (.bipush 64, 2) := by decide +kernel
theorem dX8_init_56 : decode cX8_init 56 = .ok (.newarray .int, 2) := by decide +kernel
theorem dX8_init_58 : decode cX8_init 58 = .ok (.putfield 28, 3) := by decide +kernel
theorem dX8_init_61 : decode cX8_init 61 = .ok (.aload_n 0, 1) := by decide +kernel
theorem dX8_init_62 : decode cX8_init 62 = .ok (.bipush 64, 2) := by decide +kernel
theorem dX8_init_64 : decode cX8_init 64 = .ok (.newarray .int, 2) := by decide +kernel
theorem dX8_init_66 : decode cX8_init 66 = .ok (.putfield 31, 3) := by decide +kernel
theorem dX8_init_69 : decode cX8_init 69 = .ok (.aload_n 0, 1) := by decide +kernel
theorem dX8_init_70 : decode cX8_init 70 = .ok (.sipush 1200, 3) := by decide +kernel
theorem dX8_init_73 : decode cX8_init 73 = .ok (.newarray .int, 2) := by decide +kernel
theorem dX8_init_75 : decode cX8_init 75 = .ok (.putfield 34, 3) := by decide +kernel
theorem dX8_init_78 : decode cX8_init 78 = .ok (.aload_n 0, 1) := by decide +kernel
theorem dX8_init_79 : decode cX8_init 79 = .ok (.iconst 3, 1) := by decide +kernel
theorem dX8_init_80 : decode cX8_init 80 = .ok (.newarray .int, 2) := by decide +kernel
theorem dX8_init_82 : decode cX8_init 82 = .ok (.putfield 37, 3) := by decide +kernel
theorem dX8_init_85 : decode cX8_init 85 = .ok (.aload_n 0, 1) := by decide +kernel
theorem dX8_init_86 : decode cX8_init 86 = .ok (.iconst 4, 1) := by decide +kernel
theorem dX8_init_87 : decode cX8_init 87 = .ok (.newarray .int, 2) := by decide +kernel
theorem dX8_init_89 : decode cX8_init 89 = .ok (.putfield 40, 3) := by decide +kernel
theorem dX8_init_92 : decode cX8_init 92 = .ok (.aload_n 0, 1) := by decide +kernel
theorem dX8_init_93 : decode cX8_init 93 = .ok (.iconst 4, 1) := by decide +kernel
theorem dX8_init_94 : decode cX8_init 94 = .ok (.newarray .int, 2) := by decide +kernel
theorem dX8_init_96 : decode cX8_init 96 = .ok (.putfield 43, 3) := by decide +kernel
theorem dX8_init_99 : decode cX8_init 99 = .ok (.return_, 1) := by decide +kernel
theorem dX8_most_0 : decode cX8_most 0 = .ok (.iload_n 0, 1) := by decide +kernel
theorem dX8_most_1 : decode cX8_most 1 = .ok (.ifCond .ne 8, 3) := by decide +kernel
theorem dX8_most_4 : decode cX8_most 4 = .ok (.bipush 48, 2) := by decide +kernel
theorem dX8_most_6 : decode cX8_most 6 = .ok (.goto 16, 3) := by decide +kernel
theorem dX8_most_9 : decode cX8_most 9 = .ok (.iload_n 0, 1) := by decide +kernel
theorem dX8_most_10 : decode cX8_most 10 = .ok (.iconst 1, 1) := by decide +kernel
theorem dX8_most_11 : decode cX8_most 11 = .ok (.if_icmp .ne 8, 3) := by decide +kernel
theorem dX8_most_14 : decode cX8_most 14 = .ok (.bipush 64, 2) := by decide +kernel
theorem dX8_most_16 : decode cX8_most 16 = .ok (.goto 6, 3) := by decide +kernel
theorem dX8_most_19 : decode cX8_most 19 = .ok (.sipush 1000, 3) := by decide +kernel
theorem dX8_most_22 : decode cX8_most 22 = .ok (.ireturn, 1) := by decide +kernel
theorem dX8_isByte_0 : decode cX8_isByte 0 = .ok (.iload_n 0, 1) := by decide +kernel
theorem dX8_isByte_1 : decode cX8_isByte 1 = .ok (.ifCond .lt 14, 3) := by decide +kernel
theorem dX8_isByte_4 : decode cX8_isByte 4 = .ok (.iload_n 0, 1) := by decide +kernel
theorem dX8_isByte_5 : decode cX8_isByte 5 = .ok (.sipush 255, 3) := by decide +kernel
theorem dX8_isByte_8 : decode cX8_isByte 8 = .ok (.if_icmp .gt 7, 3) := by decide +kernel
theorem dX8_isByte_11 : decode cX8_isByte 11 = .ok (.iconst 1, 1) := by decide +kernel
theorem dX8_isByte_12 : decode cX8_isByte 12 = .ok (.goto 4, 3) := by decide +kernel
theorem dX8_isByte_15 : decode cX8_isByte 15 = .ok (.iconst 0, 1) := by decide +kernel
theorem dX8_isByte_16 : decode cX8_isByte 16 = .ok (.ireturn, 1) := by decide +kernel
set_option maxRecDepth 20000 in
theorem ggX8_put_X8_isByte : GoodIn wsX8_put wsX8_isByte := goodIn_r _ [5] (by decide +kernel) (by decide +kernel)
set_option maxRecDepth 20000 in
theorem gX8_put_X8_isByte : GoodIn wsX8_put (va_wsS RX8 46 yX8_isByte wsX8_isByte) := goodIn_app (goodIn_of _ (by decide +kernel)) ggX8_put_X8_isByte
set_option maxRecDepth 20000 in
theorem ggX8_put_X8_most : GoodIn wsX8_put wsX8_most := goodIn_r _ [8] (by decide +kernel) (by decide +kernel)
set_option maxRecDepth 20000 in
theorem gX8_put_X8_most : GoodIn wsX8_put (va_wsS RX8 50 yX8_most wsX8_most) := goodIn_app (goodIn_of _ (by decide +kernel)) ggX8_put_X8_most
set_option maxRecDepth 20000 in
theorem ggX8_put_X8_append : GoodIn wsX8_put wsX8_append := goodIn_r _ [12, 13, 1, 14, 15, 16, 17, 18, 19, 20, 21, 22, 23, 24, 25, 26, 27, 28, 29, 30, 31, 32, 33, 34] (by decide +kernel) (by decide +kernel)
set_option maxRecDepth 20000 in
theorem gX8_put_X8_append : GoodIn wsX8_put (wsV RX8 54 RX8 yX8_append wsX8_append) := goodIn_app (goodIn_of _ (by decide +kernel)) ggX8_put_X8_append
theorem dX8_put_0 : decode cX8_put 0 = .ok (.iload_n 1, 1) := by decide +kernel
theorem dX8_put_1 : decode cX8_put 1 = .ok (.ifCond .lt 41, 3) := by decide +kernel
theorem dX8_put_4 : decode cX8_put 4 = .ok (.iload_n 1, 1) := by decide +kernel
theorem dX8_put_5 : decode cX8_put 5 = .ok (.iconst 2, 1) := by decide +kernel
theorem dX8_put_6 : decode cX8_put 6 = .ok (.if_icmp .gt 36, 3) := by decide +kernel
theorem dX8_put_9 : decode cX8_put 9 = .ok (.iload_n 2, 1) := by decide +kernel
theorem dX8_put_10 : decode cX8_put 10 = .ok (.invokestatic 46, 3) := by decide +kernel
theorem dX8_put_13 : decode cX8_put 13 = .ok (.ifCond .eq 29, 3) := by decide +kernel
theorem dX8_put_16 : decode cX8_put 16 = .ok (.iload_n 3, 1) := by decide +kernel
theorem dX8_put_17 : decode cX8_put 17 = .ok (.iconst 1, 1) := by decide +kernel
theorem dX8_put_18 : decode cX8_put 18 = .ok (.if_icmp .lt 24, 3) := by decide +kernel
theorem dX8_put_21 : decode cX8_put 21 = .ok (.iload_n 3, 1) := by decide +kernel
theorem dX8_put_22 : decode cX8_put 22 = .ok (.bipush 16, 2) := by decide +kernel
theorem dX8_put_24 : decode cX8_put 24 = .ok (.if_icmp .gt 18, 3) := by decide +kernel
theorem dX8_put_27 : decode cX8_put 27 = .ok (.aload_n 0, 1) := by decide +kernel
theorem dX8_put_28 : decode cX8_put 28 = .ok (.getfield 13, 3) := by decide +kernel
theorem dX8_put_31 : decode cX8_put 31 = .ok (.iload_n 1, 1) := by decide +kernel
theorem dX8_put_32 : decode cX8_put 32 = .ok (.iaload, 1) := by decide +kernel
theorem dX8_put_33 : decode cX8_put 33 = .ok (.iload_n 3, 1) := by decide +kernel
theorem dX8_put_34 : decode cX8_put 34 = .ok (.iadd, 1) := by decide +kernel
theorem dX8_put_35 : decode cX8_put 35 = .ok (.iload_n 1, 1) := by decide +kernel
theorem dX8_put_36 : decode cX8_put 36 = .ok (.invokestatic 50, 3) := by decide +kernel
theorem dX8_put_39 : decode cX8_put 39 = .ok (.if_icmp .le 5, 3) := by decide +kernel
theorem dX8_put_42 : decode cX8_put 42 = .ok (.iconst 0, 1) := by decide +kernel
theorem dX8_put_43 : decode cX8_put 43 = .ok (.ireturn, 1) := by decide +kernel
theorem dX8_put_44 : decode cX8_put 44 = .ok (.iconst 0, 1) := by decide +kernel
theorem dX8_put_45 : decode cX8_put 45 = .ok (.istore 4, 2) := by decide +kernel
theorem dX8_put_47 : decode cX8_put 47 = .ok (.iload 4, 2) := by decide +kernel
theorem dX8_put_49 : decode cX8_put 49 = .ok (.iload_n 3, 1) := by decide +kernel
theorem dX8_put_50 : decode cX8_put 50 = .ok (.if_icmp .ge 15, 3) := by decide +kernel
theorem dX8_put_53 : decode cX8_put 53 = .ok (.aload_n 0, 1) := by decide +kernel
theorem dX8_put_54 : decode cX8_put 54 = .ok (.iload_n 1, 1) := by decide +kernel
theorem dX8_put_55 : decode cX8_put 55 = .ok (.iload_n 2, 1) := by decide +kernel
theorem dX8_put_56 : decode cX8_put 56 = .ok (.invokevirtual 54, 3) := by decide +kernel
theorem dX8_put_59 : decode cX8_put 59 = .ok (.iinc 4 1, 3) := by decide +kernel
theorem dX8_put_62 : decode cX8_put 62 = .ok (.goto (-15), 3) := by decide +kernel
theorem dX8_put_65 : decode cX8_put 65 = .ok (.iconst 1, 1) := by decide +kernel
theorem dX8_put_66 : decode cX8_put 66 = .ok (.ireturn, 1) := by decide +kernel
theorem dX8_append_0 : decode cX8_append 0 = .ok (.aload_n 0, 1) := by decide +kernel
theorem dX8_append_1 : decode cX8_append 1 = .ok (.getfield 7, 3) := by decide +kernel
theorem dX8_append_4 : decode cX8_append 4 = .ok (.sipush 1000, 3) := by decide +kernel
theorem dX8_append_7 : decode cX8_append 7 = .ok (.iload_n 1, 1) := by decide +kernel
theorem dX8_append_8 : decode cX8_append 8 = .ok (.imul, 1) := by decide +kernel
theorem dX8_append_9 : decode cX8_append 9 = .ok (.aload_n 0, 1) := by decide +kernel
theorem dX8_append_10 : decode cX8_append 10 = .ok (.getfield 13, 3) := by decide +kernel
theorem dX8_append_13 : decode cX8_append 13 = .ok (.iload_n 1, 1) := by decide +kernel
theorem dX8_append_14 : decode cX8_append 14 = .ok (.iaload, 1) := by decide +kernel
theorem dX8_append_15 : decode cX8_append 15 = .ok (.iadd, 1) := by decide +kernel
theorem dX8_append_16 : decode cX8_append 16 = .ok (.iload_n 2, 1) := by decide +kernel
theorem dX8_append_17 : decode cX8_append 17 = .ok (.iastore, 1) := by decide +kernel
theorem dX8_append_18 : decode cX8_append 18 = .ok (.aload_n 0, 1) := by decide +kernel
theorem dX8_append_19 : decode cX8_append 19 = .ok (.getfield 13, 3) := by decide +kernel
theorem dX8_append_22 : decode cX8_append 22 = .ok (.iload_n 1, 1) := by decide +kernel
theorem dX8_append_23 : decode cX8_append 23 = .ok (.dup2, 1) := by decide +kernel
theorem dX8_append_24 : decode cX8_append 24 = .ok (.iaload, 1) := by decide +kernel
theorem dX8_append_25 : decode cX8_append 25 = .ok (.iconst 1, 1) := by decide +kernel
theorem dX8_append_26 : decode cX8_append 26 = .ok (.iadd, 1) := by decide +kernel
theorem dX8_append_27 : decode cX8_append 27 = .ok (.iastore, 1) := by decide +kernel
theorem dX8_append_28 : decode cX8_append 28 = .ok (.return_, 1) := by decide +kernel
theorem dX8_cut_0 : decode cX8_cut 0 = .ok (.iload_n 1, 1) := by decide +kernel
theorem dX8_cut_1 : decode cX8_cut 1 = .ok (.ifCond .lt 22, 3) := by decide +kernel
theorem dX8_cut_4 : decode cX8_cut 4 = .ok (.iload_n 1, 1) := by decide +kernel
theorem dX8_cut_5 : decode cX8_cut 5 = .ok (.iconst 2, 1) := by decide +kernel
theorem dX8_cut_6 : decode cX8_cut 6 = .ok (.if_icmp .gt 17, 3) := by decide +kernel
theorem dX8_cut_9 : decode cX8_cut 9 = .ok (.iload_n 2, 1) := by decide +kernel
theorem dX8_cut_10 : decode cX8_cut 10 = .ok (.ifCond .lt 13, 3) := by decide +kernel
theorem dX8_cut_13 : decode cX8_cut 13 = .ok (.iload_n 2, 1) := by decide +kernel
theorem dX8_cut_14 : decode cX8_cut 14 = .ok (.aload_n 0, 1) := by decide +kernel
theorem dX8_cut_15 : decode cX8_cut 15 = .ok (.getfield 13, 3) := by decide +kernel
theorem dX8_cut_18 : decode cX8_cut 18 = .ok (.iload_n 1, 1) := by decide +kernel
theorem dX8_cut_19 : decode cX8_cut 19 = .ok (.iaload, 1) := by decide +kernel
theorem dX8_cut_20 : decode cX8_cut 20 = .ok (.if_icmp .le 5, 3) := by decide +kernel
theorem dX8_cut_23 : decode cX8_cut 23 = .ok (.iconst 0, 1) := by decide +kernel
theorem dX8_cut_24 : decode cX8_cut 24 = .ok (.ireturn, 1) := by decide +kernel
theorem dX8_cut_25 : decode cX8_cut 25 = .ok (.aload_n 0, 1) := by decide +kernel
theorem dX8_cut_26 : decode cX8_cut 26 = .ok (.getfield 13, 3) := by decide +kernel
theorem dX8_cut_29 : decode cX8_cut 29 = .ok (.iload_n 1, 1) := by decide +kernel
theorem dX8_cut_30 : decode cX8_cut 30 = .ok (.iload_n 2, 1) := by decide +kernel
theorem dX8_cut_31 : decode cX8_cut 31 = .ok (.iastore, 1) := by decide +kernel
theorem dX8_cut_32 : decode cX8_cut 32 = .ok (.iconst 1, 1) := by decide +kernel
theorem dX8_cut_33 : decode cX8_cut 33 = .ok (.ireturn, 1) := by decide +kernel
set_option maxRecDepth 20000 in
theorem ggX8_set_X8_isByte : GoodIn wsX8_set wsX8_isByte := goodIn_r _ [6] (by decide +kernel) (by decide +kernel)
set_option maxRecDepth 20000 in
theorem gX8_set_X8_isByte : GoodIn wsX8_set (va_wsS RX8 46 yX8_isByte wsX8_isByte) := goodIn_app (goodIn_of _ (by decide +kernel)) ggX8_set_X8_isByte
theorem dX8_set_0 : decode cX8_set 0 = .ok (.iload_n 1, 1) := by decide +kernel
theorem dX8_set_1 : decode cX8_set 1 = .ok (.ifCond .lt 29, 3) := by decide +kernel
theorem dX8_set_4 : decode cX8_set 4 = .ok (.iload_n 1, 1) := by decide +kernel
theorem dX8_set_5 : decode cX8_set 5 = .ok (.iconst 2, 1) := by decide +kernel
theorem dX8_set_6 : decode cX8_set 6 = .ok (.if_icmp .gt 24, 3) := by decide +kernel
theorem dX8_set_9 : decode cX8_set 9 = .ok (.iload_n 2, 1) := by decide +kernel
theorem dX8_set_10 : decode cX8_set 10 = .ok (.ifCond .lt 20, 3) := by decide +kernel
theorem dX8_set_13 : decode cX8_set 13 = .ok (.iload_n 2, 1) := by decide +kernel
theorem dX8_set_14 : decode cX8_set 14 = .ok (.aload_n 0, 1) := by decide +kernel
theorem dX8_set_15 : decode cX8_set 15 = .ok (.getfield 13, 3) := by decide +kernel
theorem dX8_set_18 : decode cX8_set 18 = .ok (.iload_n 1, 1) := by decide +kernel
theorem dX8_set_19 : decode cX8_set 19 = .ok (.iaload, 1) := by decide +kernel
theorem dX8_set_20 : decode cX8_set 20 = .ok (.if_icmp .ge 10, 3) := by decide +kernel
theorem dX8_set_23 : decode cX8_set 23 = .ok (.iload_n 3, 1) := by decide +kernel
theorem dX8_set_24 : decode cX8_set 24 = .ok (.invokestatic 46, 3) := by decide +kernel
theorem dX8_set_27 : decode cX8_set 27 = .ok (.ifCond .ne 5, 3) := by decide +kernel
theorem dX8_set_30 : decode cX8_set 30 = .ok (.iconst 0, 1) := by decide +kernel
theorem dX8_set_31 : decode cX8_set 31 = .ok (.ireturn, 1) := by decide +kernel
theorem dX8_set_32 : decode cX8_set 32 = .ok (.aload_n 0, 1) := by decide +kernel
theorem dX8_set_33 : decode cX8_set 33 = .ok (.getfield 7, 3) := by decide +kernel
theorem dX8_set_36 : decode cX8_set 36 = .ok (.sipush 1000, 3) := by decide +kernel
theorem dX8_set_39 : decode cX8_set 39 = .ok (.iload_n 1, 1) := by decide +kernel
theorem dX8_set_40 : decode cX8_set 40 = .ok (.imul, 1) := by decide +kernel
theorem dX8_set_41 : decode cX8_set 41 = .ok (.iload_n 2, 1) := by decide +kernel
theorem dX8_set_42 : decode cX8_set 42 = .ok (.iadd, 1) := by decide +kernel
theorem dX8_set_43 : decode cX8_set 43 = .ok (.iload_n 3, 1) := by decide +kernel
theorem dX8_set_44 : decode cX8_set 44 = .ok (.iastore, 1) := by decide +kernel
theorem dX8_set_45 : decode cX8_set 45 = .ok (.iconst 1, 1) := by decide +kernel
theorem dX8_set_46 : decode cX8_set 46 = .ok (.ireturn, 1) := by decide +kernel
theorem dX8_length_0 : decode cX8_length 0 = .ok (.iload_n 1, 1) := by decide +kernel
theorem dX8_length_1 : decode cX8_length 1 = .ok (.ifCond .lt 8, 3) := by decide +kernel
theorem dX8_length_4 : decode cX8_length 4 = .ok (.iload_n 1, 1) := by decide +kernel
theorem dX8_length_5 : decode cX8_length 5 = .ok (.iconst 3, 1) := by decide +kernel
theorem dX8_length_6 : decode cX8_length 6 = .ok (.if_icmp .le 7, 3) := by decide +kernel
theorem dX8_length_9 : decode cX8_length 9 = .ok (.iconst (-1), 1) := by decide +kernel
theorem dX8_length_10 : decode cX8_length 10 = .ok (.goto 9, 3) := by decide +kernel
theorem dX8_length_13 : decode cX8_length 13 = .ok (.aload_n 0, 1) := by decide +kernel
theorem dX8_length_14 : decode cX8_length 14 = .ok (.getfield 13, 3) := by decide +kernel
theorem dX8_length_17 : decode cX8_length 17 = .ok (.iload_n 1, 1) := by decide +kernel
theorem dX8_length_18 : decode cX8_length 18 = .ok (.iaload, 1) := by decide +kernel
theorem dX8_length_19 : decode cX8_length 19 = .ok (.ireturn, 1) := by decide +kernel
theorem dX8_byteAt_0 : decode cX8_byteAt 0 = .ok (.iload_n 1, 1) := by decide +kernel
theorem dX8_byteAt_1 : decode cX8_byteAt 1 = .ok (.ifCond .lt 22, 3) := by decide +kernel
theorem dX8_byteAt_4 : decode cX8_byteAt 4 = .ok (.iload_n 1, 1) := by decide +kernel
theorem dX8_byteAt_5 : decode cX8_byteAt 5 = .ok (.iconst 3, 1) := by decide +kernel
theorem dX8_byteAt_6 : decode cX8_byteAt 6 = .ok (.if_icmp .gt 17, 3) := by decide +kernel
theorem dX8_byteAt_9 : decode cX8_byteAt 9 = .ok (.iload_n 2, 1) := by decide +kernel
theorem dX8_byteAt_10 : decode cX8_byteAt 10 = .ok (.ifCond .lt 13, 3) := by decide +kernel
theorem dX8_byteAt_13 : decode cX8_byteAt 13 = .ok (.iload_n 2, 1) := by decide +kernel
theorem dX8_byteAt_14 : decode cX8_byteAt 14 = .ok (.aload_n 0, 1) := by decide +kernel
theorem dX8_byteAt_15 : decode cX8_byteAt 15 = .ok (.getfield 13, 3) := by decide +kernel
theorem dX8_byteAt_18 : decode cX8_byteAt 18 = .ok (.iload_n 1, 1) := by decide +kernel
theorem dX8_byteAt_19 : decode cX8_byteAt 19 = .ok (.iaload, 1) := by decide +kernel
theorem dX8_byteAt_20 : decode cX8_byteAt 20 = .ok (.if_icmp .lt 7, 3) := by decide +kernel
theorem dX8_byteAt_23 : decode cX8_byteAt 23 = .ok (.iconst (-1), 1) := by decide +kernel
theorem dX8_byteAt_24 : decode cX8_byteAt 24 = .ok (.goto 15, 3) := by decide +kernel
theorem dX8_byteAt_27 : decode cX8_byteAt 27 = .ok (.aload_n 0, 1) := by decide +kernel
theorem dX8_byteAt_28 : decode cX8_byteAt 28 = .ok (.getfield 7, 3) := by decide +kernel
theorem dX8_byteAt_31 : decode cX8_byteAt 31 = .ok (.sipush 1000, 3) := by decide +kernel
theorem dX8_byteAt_34 : decode cX8_byteAt 34 = .ok (.iload_n 1, 1) := by decide +kernel
theorem dX8_byteAt_35 : decode cX8_byteAt 35 = .ok (.imul, 1) := by decide +kernel
theorem dX8_byteAt_36 : decode cX8_byteAt 36 = .ok (.iload_n 2, 1) := by decide +kernel
end
section
theorem dX8_byteAt_37 : decode cX8_byteAt 37 = .ok (.iadd, 1) := by decide +kernel
theorem dX8_byteAt_38 : decode cX8_byteAt 38 = .ok (.iaload, 1) := by decide +kernel
theorem dX8_byteAt_39 : decode cX8_byteAt 39 = .ok (.ireturn, 1) := by decide +kernel
theorem dX8_agrees_0 : decode cX8_agrees 0 = .ok (.aload_n 0, 1) := by decide +kernel
theorem dX8_agrees_1 : decode cX8_agrees 1 = .ok (.getfield 13, 3) := by decide +kernel
theorem dX8_agrees_4 : decode cX8_agrees 4 = .ok (.iconst 1, 1) := by decide +kernel
theorem dX8_agrees_5 : decode cX8_agrees 5 = .ok (.iaload, 1) := by decide +kernel
theorem dX8_agrees_6 : decode cX8_agrees 6 = .ok (.aload_n 0, 1) := by decide +kernel
theorem dX8_agrees_7 : decode cX8_agrees 7 = .ok (.getfield 13, 3) := by decide +kernel
theorem dX8_agrees_10 : decode cX8_agrees 10 = .ok (.iconst 3, 1) := by decide +kernel
theorem dX8_agrees_11 : decode cX8_agrees 11 = .ok (.iaload, 1) := by decide +kernel
theorem dX8_agrees_12 : decode cX8_agrees 12 = .ok (.if_icmp .ne 7, 3) := by decide +kernel
theorem dX8_agrees_15 : decode cX8_agrees 15 = .ok (.iconst 1, 1) := by decide +kernel
theorem dX8_agrees_16 : decode cX8_agrees 16 = .ok (.goto 4, 3) := by decide +kernel
theorem dX8_agrees_19 : decode cX8_agrees 19 = .ok (.iconst 0, 1) := by decide +kernel
theorem dX8_agrees_20 : decode cX8_agrees 20 = .ok (.istore_n 1, 1) := by decide +kernel
theorem dX8_agrees_21 : decode cX8_agrees 21 = .ok (.iconst 0, 1) := by decide +kernel
theorem dX8_agrees_22 : decode cX8_agrees 22 = .ok (.istore_n 2, 1) := by decide +kernel
theorem dX8_agrees_23 : decode cX8_agrees 23 = .ok (.iload_n 2, 1) := by decide +kernel
theorem dX8_agrees_24 : decode cX8_agrees 24 = .ok (.aload_n 0, 1) := by decide +kernel
theorem dX8_agrees_25 : decode cX8_agrees 25 = .ok (.getfield 13, 3) := by decide +kernel
theorem dX8_agrees_28 : decode cX8_agrees 28 = .ok (.iconst 1, 1) := by decide +kernel
theorem dX8_agrees_29 : decode cX8_agrees 29 = .ok (.iaload, 1) := by decide +kernel
theorem dX8_agrees_30 : decode cX8_agrees 30 = .ok (.if_icmp .ge 42, 3) := by decide +kernel
theorem dX8_agrees_33 : decode cX8_agrees 33 = .ok (.iload_n 1, 1) := by decide +kernel
theorem dX8_agrees_34 : decode cX8_agrees 34 = .ok (.ifCond .eq 38, 3) := by decide +kernel
theorem dX8_agrees_37 : decode cX8_agrees 37 = .ok (.aload_n 0, 1) := by decide +kernel
theorem dX8_agrees_38 : decode cX8_agrees 38 = .ok (.getfield 7, 3) := by decide +kernel
theorem dX8_agrees_41 : decode cX8_agrees 41 = .ok (.sipush 1000, 3) := by decide +kernel
theorem dX8_agrees_44 : decode cX8_agrees 44 = .ok (.iload_n 2, 1) := by decide +kernel
theorem dX8_agrees_45 : decode cX8_agrees 45 = .ok (.iadd, 1) := by decide +kernel
theorem dX8_agrees_46 : decode cX8_agrees 46 = .ok (.iaload, 1) := by decide +kernel
theorem dX8_agrees_47 : decode cX8_agrees 47 = .ok (.aload_n 0, 1) := by decide +kernel
theorem dX8_agrees_48 : decode cX8_agrees 48 = .ok (.getfield 7, 3) := by decide +kernel
theorem dX8_agrees_51 : decode cX8_agrees 51 = .ok (.sipush 3000, 3) := by decide +kernel
theorem dX8_agrees_54 : decode cX8_agrees 54 = .ok (.iload_n 2, 1) := by decide +kernel
theorem dX8_agrees_55 : decode cX8_agrees 55 = .ok (.iadd, 1) := by decide +kernel
theorem dX8_agrees_56 : decode cX8_agrees 56 = .ok (.iaload, 1) := by decide +kernel
theorem dX8_agrees_57 : decode cX8_agrees 57 = .ok (.if_icmp .ne 7, 3) := by decide +kernel
theorem dX8_agrees_60 : decode cX8_agrees 60 = .ok (.iconst 1, 1) := by decide +kernel
theorem dX8_agrees_61 : decode cX8_agrees 61 = .ok (.goto 4, 3) := by decide +kernel
theorem dX8_agrees_64 : decode cX8_agrees 64 = .ok (.iconst 0, 1) := by decide +kernel
theorem dX8_agrees_65 : decode cX8_agrees 65 = .ok (.istore_n 1, 1) := by decide +kernel
theorem dX8_agrees_66 : decode cX8_agrees 66 = .ok (.iinc 2 1, 3) := by decide +kernel
theorem dX8_agrees_69 : decode cX8_agrees 69 = .ok (.goto (-46), 3) := by decide +kernel
theorem dX8_agrees_72 : decode cX8_agrees 72 = .ok (.iload_n 1, 1) := by decide +kernel
theorem dX8_agrees_73 : decode cX8_agrees 73 = .ok (.ireturn, 1) := by decide +kernel
theorem dX8_part_0 : decode cX8_part 0 = .ok (.iload_n 0, 1) := by decide +kernel
theorem dX8_part_1 : decode cX8_part 1 = .ok (.bipush 18, 2) := by decide +kernel
theorem dX8_part_3 : decode cX8_part 3 = .ok (.if_icmp .gt 37, 3) := by decide +kernel
theorem dX8_part_6 : decode cX8_part 6 = .ok (.iload_n 1, 1) := by decide +kernel
theorem dX8_part_7 : decode cX8_part 7 = .ok (.ifCond .ne 15, 3) := by decide +kernel
theorem dX8_part_10 : decode cX8_part 10 = .ok (.iload_n 0, 1) := by decide +kernel
theorem dX8_part_11 : decode cX8_part 11 = .ok (.ifCond .ne 7, 3) := by decide +kernel
theorem dX8_part_14 : decode cX8_part 14 = .ok (.iconst 2, 1) := by decide +kernel
theorem dX8_part_15 : decode cX8_part 15 = .ok (.goto 24, 3) := by decide +kernel
theorem dX8_part_18 : decode cX8_part 18 = .ok (.iconst 1, 1) := by decide +kernel
theorem dX8_part_19 : decode cX8_part 19 = .ok (.goto 20, 3) := by decide +kernel
theorem dX8_part_22 : decode cX8_part 22 = .ok (.iload_n 1, 1) := by decide +kernel
theorem dX8_part_23 : decode cX8_part 23 = .ok (.iconst 1, 1) := by decide +kernel
theorem dX8_part_24 : decode cX8_part 24 = .ok (.if_icmp .ne 14, 3) := by decide +kernel
theorem dX8_part_27 : decode cX8_part 27 = .ok (.iload_n 0, 1) := by decide +kernel
theorem dX8_part_28 : decode cX8_part 28 = .ok (.iconst 1, 1) := by decide +kernel
theorem dX8_part_29 : decode cX8_part 29 = .ok (.if_icmp .le 9, 3) := by decide +kernel
theorem dX8_part_32 : decode cX8_part 32 = .ok (.iload_n 0, 1) := by decide +kernel
theorem dX8_part_33 : decode cX8_part 33 = .ok (.iconst 1, 1) := by decide +kernel
theorem dX8_part_34 : decode cX8_part 34 = .ok (.isub, 1) := by decide +kernel
theorem dX8_part_35 : decode cX8_part 35 = .ok (.goto 4, 3) := by decide +kernel
theorem dX8_part_38 : decode cX8_part 38 = .ok (.iconst 0, 1) := by decide +kernel
theorem dX8_part_39 : decode cX8_part 39 = .ok (.ireturn, 1) := by decide +kernel
theorem dX8_part_40 : decode cX8_part 40 = .ok (.iload_n 0, 1) := by decide +kernel
theorem dX8_part_41 : decode cX8_part 41 = .ok (.sipush 162, 3) := by decide +kernel
theorem dX8_part_44 : decode cX8_part 44 = .ok (.if_icmp .gt 55, 3) := by decide +kernel
theorem dX8_part_47 : decode cX8_part 47 = .ok (.iload_n 0, 1) := by decide +kernel
theorem dX8_part_48 : decode cX8_part 48 = .ok (.bipush 19, 2) := by decide +kernel
theorem dX8_part_50 : decode cX8_part 50 = .ok (.isub, 1) := by decide +kernel
theorem dX8_part_51 : decode cX8_part 51 = .ok (.bipush 16, 2) := by decide +kernel
theorem dX8_part_53 : decode cX8_part 53 = .ok (.irem, 1) := by decide +kernel
theorem dX8_part_54 : decode cX8_part 54 = .ok (.istore_n 2, 1) := by decide +kernel
theorem dX8_part_55 : decode cX8_part 55 = .ok (.iload_n 1, 1) := by decide +kernel
theorem dX8_part_56 : decode cX8_part 56 = .ok (.ifCond .ne 7, 3) := by decide +kernel
theorem dX8_part_59 : decode cX8_part 59 = .ok (.iconst 3, 1) := by decide +kernel
theorem dX8_part_60 : decode cX8_part 60 = .ok (.goto 38, 3) := by decide +kernel
theorem dX8_part_63 : decode cX8_part 63 = .ok (.iload_n 1, 1) := by decide +kernel
theorem dX8_part_64 : decode cX8_part 64 = .ok (.iconst 1, 1) := by decide +kernel
theorem dX8_part_65 : decode cX8_part 65 = .ok (.if_icmp .ne 17, 3) := by decide +kernel
theorem dX8_part_68 : decode cX8_part 68 = .ok (.iload_n 2, 1) := by decide +kernel
theorem dX8_part_69 : decode cX8_part 69 = .ok (.ifCond .ne 7, 3) := by decide +kernel
theorem dX8_part_72 : decode cX8_part 72 = .ok (.iconst 0, 1) := by decide +kernel
theorem dX8_part_73 : decode cX8_part 73 = .ok (.goto 25, 3) := by decide +kernel
theorem dX8_part_76 : decode cX8_part 76 = .ok (.iconst 3, 1) := by decide +kernel
theorem dX8_part_77 : decode cX8_part 77 = .ok (.iload_n 2, 1) := by decide +kernel
theorem dX8_part_78 : decode cX8_part 78 = .ok (.iadd, 1) := by decide +kernel
theorem dX8_part_79 : decode cX8_part 79 = .ok (.goto 19, 3) := by decide +kernel
theorem dX8_part_82 : decode cX8_part 82 = .ok (.iload_n 1, 1) := by decide +kernel
theorem dX8_part_83 : decode cX8_part 83 = .ok (.iconst 2, 1) := by decide +kernel
theorem dX8_part_84 : decode cX8_part 84 = .ok (.if_icmp .ne 13, 3) := by decide +kernel
theorem dX8_part_87 : decode cX8_part 87 = .ok (.iload_n 0, 1) := by decide +kernel
theorem dX8_part_88 : decode cX8_part 88 = .ok (.bipush 19, 2) := by decide +kernel
theorem dX8_part_90 : decode cX8_part 90 = .ok (.isub, 1) := by decide +kernel
theorem dX8_part_91 : decode cX8_part 91 = .ok (.bipush 16, 2) := by decide +kernel
theorem dX8_part_93 : decode cX8_part 93 = .ok (.idiv, 1) := by decide +kernel
theorem dX8_part_94 : decode cX8_part 94 = .ok (.goto 4, 3) := by decide +kernel
theorem dX8_part_97 : decode cX8_part 97 = .ok (.iconst 0, 1) := by decide +kernel
theorem dX8_part_98 : decode cX8_part 98 = .ok (.ireturn, 1) := by decide +kernel
theorem dX8_part_99 : decode cX8_part 99 = .ok (.iload_n 0, 1) := by decide +kernel
theorem dX8_part_100 : decode cX8_part 100 = .ok (.sipush 246, 3) := by decide +kernel
theorem dX8_part_103 : decode cX8_part 103 = .ok (.if_icmp .gt 133, 3) := by decide +kernel
theorem dX8_part_106 : decode cX8_part 106 = .ok (.iload_n 0, 1) := by decide +kernel
theorem dX8_part_107 : decode cX8_part 107 = .ok (.sipush 234, 3) := by decide +kernel
theorem dX8_part_110 : decode cX8_part 110 = .ok (.if_icmp .gt 14, 3) := by decide +kernel
theorem dX8_part_113 : decode cX8_part 113 = .ok (.iload_n 0, 1) := by decide +kernel
theorem dX8_part_114 : decode cX8_part 114 = .ok (.sipush 163, 3) := by decide +kernel
theorem dX8_part_117 : decode cX8_part 117 = .ok (.isub, 1) := by decide +kernel
theorem dX8_part_118 : decode cX8_part 118 = .ok (.bipush 12, 2) := by decide +kernel
theorem dX8_part_120 : decode cX8_part 120 = .ok (.idiv, 1) := by decide +kernel
theorem dX8_part_121 : decode cX8_part 121 = .ok (.goto 13, 3) := by decide +kernel
theorem dX8_part_124 : decode cX8_part 124 = .ok (.bipush 6, 2) := by decide +kernel
theorem dX8_part_126 : decode cX8_part 126 = .ok (.iload_n 0, 1) := by decide +kernel
theorem dX8_part_127 : decode cX8_part 127 = .ok (.sipush 235, 3) := by decide +kernel
theorem dX8_part_130 : decode cX8_part 130 = .ok (.isub, 1) := by decide +kernel
theorem dX8_part_131 : decode cX8_part 131 = .ok (.iconst 4, 1) := by decide +kernel
theorem dX8_part_132 : decode cX8_part 132 = .ok (.idiv, 1) := by decide +kernel
theorem dX8_part_133 : decode cX8_part 133 = .ok (.iadd, 1) := by decide +kernel
theorem dX8_part_134 : decode cX8_part 134 = .ok (.istore_n 2, 1) := by decide +kernel
theorem dX8_part_135 : decode cX8_part 135 = .ok (.iload_n 0, 1) := by decide +kernel
theorem dX8_part_136 : decode cX8_part 136 = .ok (.sipush 234, 3) := by decide +kernel
theorem dX8_part_139 : decode cX8_part 139 = .ok (.if_icmp .gt 18, 3) := by decide +kernel
theorem dX8_part_142 : decode cX8_part 142 = .ok (.iload_n 0, 1) := by decide +kernel
theorem dX8_part_143 : decode cX8_part 143 = .ok (.sipush 163, 3) := by decide +kernel
theorem dX8_part_146 : decode cX8_part 146 = .ok (.isub, 1) := by decide +kernel
theorem dX8_part_147 : decode cX8_part 147 = .ok (.bipush 12, 2) := by decide +kernel
theorem dX8_part_149 : decode cX8_part 149 = .ok (.irem, 1) := by decide +kernel
theorem dX8_part_150 : decode cX8_part 150 = .ok (.iconst 3, 1) := by decide +kernel
theorem dX8_part_151 : decode cX8_part 151 = .ok (.idiv, 1) := by decide +kernel
theorem dX8_part_152 : decode cX8_part 152 = .ok (.iconst 1, 1) := by decide +kernel
theorem dX8_part_153 : decode cX8_part 153 = .ok (.iadd, 1) := by decide +kernel
theorem dX8_part_154 : decode cX8_part 154 = .ok (.goto 12, 3) := by decide +kernel
theorem dX8_part_157 : decode cX8_part 157 = .ok (.iload_n 0, 1) := by decide +kernel
theorem dX8_part_158 : decode cX8_part 158 = .ok (.sipush 235, 3) := by decide +kernel
theorem dX8_part_161 : decode cX8_part 161 = .ok (.isub, 1) := by decide +kernel
theorem dX8_part_162 : decode cX8_part 162 = .ok (.iconst 4, 1) := by decide +kernel
theorem dX8_part_163 : decode cX8_part 163 = .ok (.irem, 1) := by decide +kernel
theorem dX8_part_164 : decode cX8_part 164 = .ok (.iconst 1, 1) := by decide +kernel
theorem dX8_part_165 : decode cX8_part 165 = .ok (.iadd, 1) := by decide +kernel
theorem dX8_part_166 : decode cX8_part 166 = .ok (.istore_n 3, 1) := by decide +kernel
theorem dX8_part_167 : decode cX8_part 167 = .ok (.iload_n 0, 1) := by decide +kernel
theorem dX8_part_168 : decode cX8_part 168 = .ok (.sipush 234, 3) := by decide +kernel
theorem dX8_part_171 : decode cX8_part 171 = .ok (.if_icmp .gt 15, 3) := by decide +kernel
theorem dX8_part_174 : decode cX8_part 174 = .ok (.iload_n 0, 1) := by decide +kernel
theorem dX8_part_175 : decode cX8_part 175 = .ok (.sipush 163, 3) := by decide +kernel
theorem dX8_part_178 : decode cX8_part 178 = .ok (.isub, 1) := by decide +kernel
theorem dX8_part_179 : decode cX8_part 179 = .ok (.iconst 3, 1) := by decide +kernel
theorem dX8_part_180 : decode cX8_part 180 = .ok (.irem, 1) := by decide +kernel
theorem dX8_part_181 : decode cX8_part 181 = .ok (.iconst 4, 1) := by decide +kernel
theorem dX8_part_182 : decode cX8_part 182 = .ok (.iadd, 1) := by decide +kernel
theorem dX8_part_183 : decode cX8_part 183 = .ok (.goto 4, 3) := by decide +kernel
theorem dX8_part_186 : decode cX8_part 186 = .ok (.iconst 4, 1) := by decide +kernel
theorem dX8_part_187 : decode cX8_part 187 = .ok (.istore 4, 2) := by decide +kernel
theorem dX8_part_189 : decode cX8_part 189 = .ok (.iload_n 1, 1) := by decide +kernel
theorem dX8_part_190 : decode cX8_part 190 = .ok (.ifCond .ne 7, 3) := by decide +kernel
theorem dX8_part_193 : decode cX8_part 193 = .ok (.iconst 1, 1) := by decide +kernel
theorem dX8_part_194 : decode cX8_part 194 = .ok (.goto 41, 3) := by decide +kernel
theorem dX8_part_197 : decode cX8_part 197 = .ok (.iload_n 1, 1) := by decide +kernel
theorem dX8_part_198 : decode cX8_part 198 = .ok (.iconst 1, 1) := by decide +kernel
theorem dX8_part_199 : decode cX8_part 199 = .ok (.if_icmp .ne 7, 3) := by decide +kernel
theorem dX8_part_202 : decode cX8_part 202 = .ok (.iload_n 3, 1) := by decide +kernel
theorem dX8_part_203 : decode cX8_part 203 = .ok (.goto 32, 3) := by decide +kernel
theorem dX8_part_206 : decode cX8_part 206 = .ok (.iload_n 1, 1) := by decide +kernel
theorem dX8_part_207 : decode cX8_part 207 = .ok (.iconst 2, 1) := by decide +kernel
theorem dX8_part_208 : decode cX8_part 208 = .ok (.if_icmp .ne 7, 3) := by decide +kernel
theorem dX8_part_211 : decode cX8_part 211 = .ok (.iconst 0, 1) := by decide +kernel
theorem dX8_part_212 : decode cX8_part 212 = .ok (.goto 23, 3) := by decide +kernel
theorem dX8_part_215 : decode cX8_part 215 = .ok (.iload_n 1, 1) := by decide +kernel
theorem dX8_part_216 : decode cX8_part 216 = .ok (.iconst 3, 1) := by decide +kernel
theorem dX8_part_217 : decode cX8_part 217 = .ok (.if_icmp .ne 7, 3) := by decide +kernel
theorem dX8_part_220 : decode cX8_part 220 = .ok (.iconst 3, 1) := by decide +kernel
theorem dX8_part_221 : decode cX8_part 221 = .ok (.goto 14, 3) := by decide +kernel
theorem dX8_part_224 : decode cX8_part 224 = .ok (.iload_n 1, 1) := by decide +kernel
theorem dX8_part_225 : decode cX8_part 225 = .ok (.iconst 4, 1) := by decide +kernel
theorem dX8_part_226 : decode cX8_part 226 = .ok (.if_icmp .ne 8, 3) := by decide +kernel
theorem dX8_part_229 : decode cX8_part 229 = .ok (.iload 4, 2) := by decide +kernel
theorem dX8_part_231 : decode cX8_part 231 = .ok (.goto 4, 3) := by decide +kernel
theorem dX8_part_234 : decode cX8_part 234 = .ok (.iload_n 2, 1) := by decide +kernel
theorem dX8_part_235 : decode cX8_part 235 = .ok (.ireturn, 1) := by decide +kernel
theorem dX8_part_236 : decode cX8_part 236 = .ok (.iload_n 1, 1) := by decide +kernel
theorem dX8_part_237 : decode cX8_part 237 = .ok (.ifCond .ne 7, 3) := by decide +kernel
theorem dX8_part_240 : decode cX8_part 240 = .ok (.iconst 3, 1) := by decide +kernel
theorem dX8_part_241 : decode cX8_part 241 = .ok (.goto 35, 3) := by decide +kernel
theorem dX8_part_244 : decode cX8_part 244 = .ok (.iload_n 1, 1) := by decide +kernel
theorem dX8_part_245 : decode cX8_part 245 = .ok (.iconst 1, 1) := by decide +kernel
theorem dX8_part_246 : decode cX8_part 246 = .ok (.if_icmp .ne 7, 3) := by decide +kernel
theorem dX8_part_249 : decode cX8_part 249 = .ok (.iconst 4, 1) := by decide +kernel
theorem dX8_part_250 : decode cX8_part 250 = .ok (.goto 26, 3) := by decide +kernel
theorem dX8_part_253 : decode cX8_part 253 = .ok (.iload_n 1, 1) := by decide +kernel
theorem dX8_part_254 : decode cX8_part 254 = .ok (.iconst 2, 1) := by decide +kernel
theorem dX8_part_255 : decode cX8_part 255 = .ok (.if_icmp .ne 11, 3) := by decide +kernel
theorem dX8_part_258 : decode cX8_part 258 = .ok (.iload_n 0, 1) := by decide +kernel
theorem dX8_part_259 : decode cX8_part 259 = .ok (.sipush 247, 3) := by decide +kernel
theorem dX8_part_262 : decode cX8_part 262 = .ok (.isub, 1) := by decide +kernel
theorem dX8_part_263 : decode cX8_part 263 = .ok (.goto 13, 3) := by decide +kernel
theorem dX8_part_266 : decode cX8_part 266 = .ok (.iload_n 1, 1) := by decide +kernel
theorem dX8_part_267 : decode cX8_part 267 = .ok (.iconst 5, 1) := by decide +kernel
theorem dX8_part_268 : decode cX8_part 268 = .ok (.if_icmp .ne 7, 3) := by decide +kernel
theorem dX8_part_271 : decode cX8_part 271 = .ok (.iconst 0, 1) := by decide +kernel
theorem dX8_part_272 : decode cX8_part 272 = .ok (.goto 4, 3) := by decide +kernel
theorem dX8_part_275 : decode cX8_part 275 = .ok (.iconst 1, 1) := by decide +kernel
theorem dX8_part_276 : decode cX8_part 276 = .ok (.ireturn, 1) := by decide +kernel
set_option maxRecDepth 20000 in
theorem ggX8_code_X8_isByte : GoodIn wsX8_code wsX8_isByte := goodIn_r _ [4] (by decide +kernel) (by decide +kernel)
set_option maxRecDepth 20000 in
theorem gX8_code_X8_isByte : GoodIn wsX8_code (va_wsS RX8 46 yX8_isByte wsX8_isByte) := goodIn_app (goodIn_of _ (by decide +kernel)) ggX8_code_X8_isByte
set_option maxRecDepth 20000 in
theorem ggX8_code_X8_part : GoodIn wsX8_code wsX8_part := goodIn_r _ [7] (by decide +kernel) (by decide +kernel)
set_option maxRecDepth 20000 in
theorem gX8_code_X8_part : GoodIn wsX8_code (va_wsS RX8 58 yX8_part wsX8_part) := goodIn_app (goodIn_of _ (by decide +kernel)) ggX8_code_X8_part
theorem dX8_code_0 : decode cX8_code 0 = .ok (.iload_n 1, 1) := by decide +kernel
theorem dX8_code_1 : decode cX8_code 1 = .ok (.invokestatic 46, 3) := by decide +kernel
theorem dX8_code_4 : decode cX8_code 4 = .ok (.ifCond .eq 12, 3) := by decide +kernel
theorem dX8_code_7 : decode cX8_code 7 = .ok (.iload_n 2, 1) := by decide +kernel
theorem dX8_code_8 : decode cX8_code 8 = .ok (.ifCond .lt 8, 3) := by decide +kernel
theorem dX8_code_11 : decode cX8_code 11 = .ok (.iload_n 2, 1) := by decide +kernel
theorem dX8_code_12 : decode cX8_code 12 = .ok (.iconst 5, 1) := by decide +kernel
theorem dX8_code_13 : decode cX8_code 13 = .ok (.if_icmp .le 7, 3) := by decide +kernel
theorem dX8_code_16 : decode cX8_code 16 = .ok (.iconst (-1), 1) := by decide +kernel
theorem dX8_code_17 : decode cX8_code 17 = .ok (.goto 8, 3) := by decide +kernel
theorem dX8_code_20 : decode cX8_code 20 = .ok (.iload_n 1, 1) := by decide +kernel
theorem dX8_code_21 : decode cX8_code 21 = .ok (.iload_n 2, 1) := by decide +kernel
theorem dX8_code_22 : decode cX8_code 22 = .ok (.invokestatic 58, 3) := by decide +kernel
theorem dX8_code_25 : decode cX8_code 25 = .ok (.ireturn, 1) := by decide +kernel
set_option maxRecDepth 20000 in
theorem ggX8_find_X8_part : GoodIn wsX8_find wsX8_part := goodIn_r _ [4] (by decide +kernel) (by decide +kernel)
set_option maxRecDepth 20000 in
theorem gX8_find_X8_part : GoodIn wsX8_find (va_wsS RX8 58 yX8_part wsX8_part) := goodIn_app (goodIn_of _ (by decide +kernel)) ggX8_find_X8_part
theorem dX8_find_0 : decode cX8_find 0 = .ok (.iconst (-1), 1) := by decide +kernel
theorem dX8_find_1 : decode cX8_find 1 = .ok (.istore 6, 2) := by decide +kernel
theorem dX8_find_3 : decode cX8_find 3 = .ok (.sipush 255, 3) := by decide +kernel
theorem dX8_find_6 : decode cX8_find 6 = .ok (.istore 7, 2) := by decide +kernel
theorem dX8_find_8 : decode cX8_find 8 = .ok (.iload 7, 2) := by decide +kernel
theorem dX8_find_10 : decode cX8_find 10 = .ok (.ifCond .lt 92, 3) := by decide +kernel
theorem dX8_find_13 : decode cX8_find 13 = .ok (.iload 7, 2) := by decide +kernel
theorem dX8_find_15 : decode cX8_find 15 = .ok (.iconst 0, 1) := by decide +kernel
theorem dX8_find_16 : decode cX8_find 16 = .ok (.invokestatic 58, 3) := by decide +kernel
theorem dX8_find_19 : decode cX8_find 19 = .ok (.iload_n 0, 1) := by decide +kernel
theorem dX8_find_20 : decode cX8_find 20 = .ok (.if_icmp .ne 27, 3) := by decide +kernel
theorem dX8_find_23 : decode cX8_find 23 = .ok (.iload 7, 2) := by decide +kernel
theorem dX8_find_25 : decode cX8_find 25 = .ok (.iconst 1, 1) := by decide +kernel
theorem dX8_find_26 : decode cX8_find 26 = .ok (.invokestatic 58, 3) := by decide +kernel
theorem dX8_find_29 : decode cX8_find 29 = .ok (.iload_n 1, 1) := by decide +kernel
theorem dX8_find_30 : decode cX8_find 30 = .ok (.if_icmp .ne 17, 3) := by decide +kernel
theorem dX8_find_33 : decode cX8_find 33 = .ok (.iload 7, 2) := by decide +kernel
theorem dX8_find_35 : decode cX8_find 35 = .ok (.iconst 2, 1) := by decide +kernel
theorem dX8_find_36 : decode cX8_find 36 = .ok (.invokestatic 58, 3) := by decide +kernel
theorem dX8_find_39 : decode cX8_find 39 = .ok (.iload_n 2, 1) := by decide +kernel
theorem dX8_find_40 : decode cX8_find 40 = .ok (.if_icmp .ne 7, 3) := by decide +kernel
theorem dX8_find_43 : decode cX8_find 43 = .ok (.iconst 1, 1) := by decide +kernel
theorem dX8_find_44 : decode cX8_find 44 = .ok (.goto 4, 3) := by decide +kernel
theorem dX8_find_47 : decode cX8_find 47 = .ok (.iconst 0, 1) := by decide +kernel
theorem dX8_find_48 : decode cX8_find 48 = .ok (.istore 8, 2) := by decide +kernel
theorem dX8_find_50 : decode cX8_find 50 = .ok (.iload 8, 2) := by decide +kernel
theorem dX8_find_52 : decode cX8_find 52 = .ok (.ifCond .eq 40, 3) := by decide +kernel
theorem dX8_find_55 : decode cX8_find 55 = .ok (.iload 7, 2) := by decide +kernel
theorem dX8_find_57 : decode cX8_find 57 = .ok (.iconst 3, 1) := by decide +kernel
theorem dX8_find_58 : decode cX8_find 58 = .ok (.invokestatic 58, 3) := by decide +kernel
theorem dX8_find_61 : decode cX8_find 61 = .ok (.iload_n 3, 1) := by decide +kernel
theorem dX8_find_62 : decode cX8_find 62 = .ok (.if_icmp .ne 30, 3) := by decide +kernel
theorem dX8_find_65 : decode cX8_find 65 = .ok (.iload 7, 2) := by decide +kernel
theorem dX8_find_67 : decode cX8_find 67 = .ok (.iconst 4, 1) := by decide +kernel
theorem dX8_find_68 : decode cX8_find 68 = .ok (.invokestatic 58, 3) := by decide +kernel
theorem dX8_find_71 : decode cX8_find 71 = .ok (.iload 4, 2) := by decide +kernel
theorem dX8_find_73 : decode cX8_find 73 = .ok (.if_icmp .ne 19, 3) := by decide +kernel
theorem dX8_find_76 : decode cX8_find 76 = .ok (.iload 7, 2) := by decide +kernel
theorem dX8_find_78 : decode cX8_find 78 = .ok (.iconst 5, 1) := by decide +kernel
theorem dX8_find_79 : decode cX8_find 79 = .ok (.invokestatic 58, 3) := by decide +kernel
theorem dX8_find_82 : decode cX8_find 82 = .ok (.iload 5, 2) := by decide +kernel
theorem dX8_find_84 : decode cX8_find 84 = .ok (.if_icmp .ne 8, 3) := by decide +kernel
theorem dX8_find_87 : decode cX8_find 87 = .ok (.iload 7, 2) := by decide +kernel
theorem dX8_find_89 : decode cX8_find 89 = .ok (.goto 5, 3) := by decide +kernel
theorem dX8_find_92 : decode cX8_find 92 = .ok (.iload 6, 2) := by decide +kernel
theorem dX8_find_94 : decode cX8_find 94 = .ok (.istore 6, 2) := by decide +kernel
theorem dX8_find_96 : decode cX8_find 96 = .ok (.iinc 7 (-1), 3) := by decide +kernel
theorem dX8_find_99 : decode cX8_find 99 = .ok (.goto (-91), 3) := by decide +kernel
theorem dX8_find_102 : decode cX8_find 102 = .ok (.iload 6, 2) := by decide +kernel
theorem dX8_find_104 : decode cX8_find 104 = .ok (.ireturn, 1) := by decide +kernel
theorem dX8_forget_0 : decode cX8_forget 0 = .ok (.iconst 0, 1) := by decide +kernel
theorem dX8_forget_1 : decode cX8_forget 1 = .ok (.istore_n 1, 1) := by decide +kernel
theorem dX8_forget_2 : decode cX8_forget 2 = .ok (.iload_n 1, 1) := by decide +kernel
theorem dX8_forget_3 : decode cX8_forget 3 = .ok (.iconst 4, 1) := by decide +kernel
theorem dX8_forget_4 : decode cX8_forget 4 = .ok (.if_icmp .ge 16, 3) := by decide +kernel
theorem dX8_forget_7 : decode cX8_forget 7 = .ok (.aload_n 0, 1) := by decide +kernel
theorem dX8_forget_8 : decode cX8_forget 8 = .ok (.getfield 16, 3) := by decide +kernel
theorem dX8_forget_11 : decode cX8_forget 11 = .ok (.iload_n 1, 1) := by decide +kernel
theorem dX8_forget_12 : decode cX8_forget 12 = .ok (.iconst 0, 1) := by decide +kernel
theorem dX8_forget_13 : decode cX8_forget 13 = .ok (.iastore, 1) := by decide +kernel
theorem dX8_forget_14 : decode cX8_forget 14 = .ok (.iinc 1 1, 3) := by decide +kernel
theorem dX8_forget_17 : decode cX8_forget 17 = .ok (.goto (-15), 3) := by decide +kernel
theorem dX8_forget_20 : decode cX8_forget 20 = .ok (.iconst 0, 1) := by decide +kernel
theorem dX8_forget_21 : decode cX8_forget 21 = .ok (.istore_n 1, 1) := by decide +kernel
theorem dX8_forget_22 : decode cX8_forget 22 = .ok (.iload_n 1, 1) := by decide +kernel
theorem dX8_forget_23 : decode cX8_forget 23 = .ok (.sipush 768, 3) := by decide +kernel
theorem dX8_forget_26 : decode cX8_forget 26 = .ok (.if_icmp .ge 16, 3) := by decide +kernel
theorem dX8_forget_29 : decode cX8_forget 29 = .ok (.aload_n 0, 1) := by decide +kernel
theorem dX8_forget_30 : decode cX8_forget 30 = .ok (.getfield 19, 3) := by decide +kernel
theorem dX8_forget_33 : decode cX8_forget 33 = .ok (.iload_n 1, 1) := by decide +kernel
theorem dX8_forget_34 : decode cX8_forget 34 = .ok (.iconst 0, 1) := by decide +kernel
theorem dX8_forget_35 : decode cX8_forget 35 = .ok (.iastore, 1) := by decide +kernel
theorem dX8_forget_36 : decode cX8_forget 36 = .ok (.iinc 1 1, 3) := by decide +kernel
theorem dX8_forget_39 : decode cX8_forget 39 = .ok (.goto (-17), 3) := by decide +kernel
theorem dX8_forget_42 : decode cX8_forget 42 = .ok (.aload_n 0, 1) := by decide +kernel
theorem dX8_forget_43 : decode cX8_forget 43 = .ok (.iconst 0, 1) := by decide +kernel
theorem dX8_forget_44 : decode cX8_forget 44 = .ok (.putfield 62, 3) := by decide +kernel
theorem dX8_forget_47 : decode cX8_forget 47 = .ok (.return_, 1) := by decide +kernel
theorem dX8_note_0 : decode cX8_note 0 = .ok (.aload_n 0, 1) := by decide +kernel
theorem dX8_note_1 : decode cX8_note 1 = .ok (.getfield 16, 3) := by decide +kernel
theorem dX8_note_4 : decode cX8_note 4 = .ok (.aload_n 0, 1) := by decide +kernel
theorem dX8_note_5 : decode cX8_note 5 = .ok (.getfield 62, 3) := by decide +kernel
theorem dX8_note_8 : decode cX8_note 8 = .ok (.iload_n 1, 1) := by decide +kernel
theorem dX8_note_9 : decode cX8_note 9 = .ok (.iastore, 1) := by decide +kernel
theorem dX8_note_10 : decode cX8_note 10 = .ok (.aload_n 0, 1) := by decide +kernel
theorem dX8_note_11 : decode cX8_note 11 = .ok (.aload_n 0, 1) := by decide +kernel
theorem dX8_note_12 : decode cX8_note 12 = .ok (.getfield 62, 3) := by decide +kernel
theorem dX8_note_15 : decode cX8_note 15 = .ok (.iconst 1, 1) := by decide +kernel
theorem dX8_note_16 : decode cX8_note 16 = .ok (.iadd, 1) := by decide +kernel
theorem dX8_note_17 : decode cX8_note 17 = .ok (.iconst 4, 1) := by decide +kernel
theorem dX8_note_18 : decode cX8_note 18 = .ok (.irem, 1) := by decide +kernel
theorem dX8_note_19 : decode cX8_note 19 = .ok (.putfield 62, 3) := by decide +kernel
theorem dX8_note_22 : decode cX8_note 22 = .ok (.aload_n 0, 1) := by decide +kernel
theorem dX8_note_23 : decode cX8_note 23 = .ok (.getfield 19, 3) := by decide +kernel
theorem dX8_note_26 : decode cX8_note 26 = .ok (.iload_n 1, 1) := by decide +kernel
theorem dX8_note_27 : decode cX8_note 27 = .ok (.sipush 768, 3) := by decide +kernel
theorem dX8_note_30 : decode cX8_note 30 = .ok (.irem, 1) := by decide +kernel
theorem dX8_note_31 : decode cX8_note 31 = .ok (.iload_n 1, 1) := by decide +kernel
theorem dX8_note_32 : decode cX8_note 32 = .ok (.iastore, 1) := by decide +kernel
theorem dX8_note_33 : decode cX8_note 33 = .ok (.return_, 1) := by decide +kernel
theorem dX8_show_0 : decode cX8_show 0 = .ok (.iconst 0, 1) := by decide +kernel
theorem dX8_show_1 : decode cX8_show 1 = .ok (.istore_n 2, 1) := by decide +kernel
theorem dX8_show_2 : decode cX8_show 2 = .ok (.iload_n 2, 1) := by decide +kernel
theorem dX8_show_3 : decode cX8_show 3 = .ok (.sipush 772, 3) := by decide +kernel
theorem dX8_show_6 : decode cX8_show 6 = .ok (.if_icmp .ge 43, 3) := by decide +kernel
theorem dX8_show_9 : decode cX8_show 9 = .ok (.aload_n 0, 1) := by decide +kernel
theorem dX8_show_10 : decode cX8_show 10 = .ok (.getfield 22, 3) := by decide +kernel
theorem dX8_show_13 : decode cX8_show 13 = .ok (.sipush 772, 3) := by decide +kernel
theorem dX8_show_16 : decode cX8_show 16 = .ok (.iload_n 1, 1) := by decide +kernel
theorem dX8_show_17 : decode cX8_show 17 = .ok (.imul, 1) := by decide +kernel
theorem dX8_show_18 : decode cX8_show 18 = .ok (.iload_n 2, 1) := by decide +kernel
theorem dX8_show_19 : decode cX8_show 19 = .ok (.iadd, 1) := by decide +kernel
theorem dX8_show_20 : decode cX8_show 20 = .ok (.iload_n 2, 1) := by decide +kernel
theorem dX8_show_21 : decode cX8_show 21 = .ok (.iconst 4, 1) := by decide +kernel
theorem dX8_show_22 : decode cX8_show 22 = .ok (.if_icmp .ge 12, 3) := by decide +kernel
theorem dX8_show_25 : decode cX8_show 25 = .ok (.aload_n 0, 1) := by decide +kernel
theorem dX8_show_26 : decode cX8_show 26 = .ok (.getfield 16, 3) := by decide +kernel
theorem dX8_show_29 : decode cX8_show 29 = .ok (.iload_n 2, 1) := by decide +kernel
theorem dX8_show_30 : decode cX8_show 30 = .ok (.iaload, 1) := by decide +kernel
theorem dX8_show_31 : decode cX8_show 31 = .ok (.goto 11, 3) := by decide +kernel
theorem dX8_show_34 : decode cX8_show 34 = .ok (.aload_n 0, 1) := by decide +kernel
theorem dX8_show_35 : decode cX8_show 35 = .ok (.getfield 19, 3) := by decide +kernel
theorem dX8_show_38 : decode cX8_show 38 = .ok (.iload_n 2, 1) := by decide +kernel
theorem dX8_show_39 : decode cX8_show 39 = .ok (.iconst 4, 1) := by decide +kernel
theorem dX8_show_40 : decode cX8_show 40 = .ok (.isub, 1) := by decide +kernel
theorem dX8_show_41 : decode cX8_show 41 = .ok (.iaload, 1) := by decide +kernel
theorem dX8_show_42 : decode cX8_show 42 = .ok (.iastore, 1) := by decide +kernel
theorem dX8_show_43 : decode cX8_show 43 = .ok (.iinc 2 1, 3) := by decide +kernel
theorem dX8_show_46 : decode cX8_show 46 = .ok (.goto (-44), 3) := by decide +kernel
theorem dX8_show_49 : decode cX8_show 49 = .ok (.return_, 1) := by decide +kernel
theorem dX8_cache_0 : decode cX8_cache 0 = .ok (.iload_n 1, 1) := by decide +kernel
theorem dX8_cache_1 : decode cX8_cache 1 = .ok (.ifCond .lt 19, 3) := by decide +kernel
theorem dX8_cache_4 : decode cX8_cache 4 = .ok (.iload_n 1, 1) := by decide +kernel
theorem dX8_cache_5 : decode cX8_cache 5 = .ok (.iconst 1, 1) := by decide +kernel
theorem dX8_cache_6 : decode cX8_cache 6 = .ok (.if_icmp .gt 14, 3) := by decide +kernel
theorem dX8_cache_9 : decode cX8_cache 9 = .ok (.iload_n 2, 1) := by decide +kernel
theorem dX8_cache_10 : decode cX8_cache 10 = .ok (.ifCond .lt 10, 3) := by decide +kernel
theorem dX8_cache_13 : decode cX8_cache 13 = .ok (.iload_n 2, 1) := by decide +kernel
theorem dX8_cache_14 : decode cX8_cache 14 = .ok (.sipush 771, 3) := by decide +kernel
theorem dX8_cache_17 : decode cX8_cache 17 = .ok (.if_icmp .le 7, 3) := by decide +kernel
theorem dX8_cache_20 : decode cX8_cache 20 = .ok (.iconst (-1), 1) := by decide +kernel
theorem dX8_cache_21 : decode cX8_cache 21 = .ok (.goto 15, 3) := by decide +kernel
theorem dX8_cache_24 : decode cX8_cache 24 = .ok (.aload_n 0, 1) := by decide +kernel
theorem dX8_cache_25 : decode cX8_cache 25 = .ok (.getfield 22, 3) := by decide +kernel
theorem dX8_cache_28 : decode cX8_cache 28 = .ok (.sipush 772, 3) := by decide +kernel
theorem dX8_cache_31 : decode cX8_cache 31 = .ok (.iload_n 1, 1) := by decide +kernel
theorem dX8_cache_32 : decode cX8_cache 32 = .ok (.imul, 1) := by decide +kernel
theorem dX8_cache_33 : decode cX8_cache 33 = .ok (.iload_n 2, 1) := by decide +kernel
theorem dX8_cache_34 : decode cX8_cache 34 = .ok (.iadd, 1) := by decide +kernel
theorem dX8_cache_35 : decode cX8_cache 35 = .ok (.iaload, 1) := by decide +kernel
theorem dX8_cache_36 : decode cX8_cache 36 = .ok (.ireturn, 1) := by decide +kernel
theorem dX8_write_0 : decode cX8_write 0 = .ok (.aload_n 0, 1) := by decide +kernel
theorem dX8_write_1 : decode cX8_write 1 = .ok (.getfield 34, 3) := by decide +kernel
theorem dX8_write_4 : decode cX8_write 4 = .ok (.sipush 400, 3) := by decide +kernel
theorem dX8_write_7 : decode cX8_write 7 = .ok (.iload_n 1, 1) := by decide +kernel
theorem dX8_write_8 : decode cX8_write 8 = .ok (.imul, 1) := by decide +kernel
theorem dX8_write_9 : decode cX8_write 9 = .ok (.aload_n 0, 1) := by decide +kernel
theorem dX8_write_10 : decode cX8_write 10 = .ok (.getfield 37, 3) := by decide +kernel
theorem dX8_write_13 : decode cX8_write 13 = .ok (.iload_n 1, 1) := by decide +kernel
theorem dX8_write_14 : decode cX8_write 14 = .ok (.iaload, 1) := by decide +kernel
theorem dX8_write_15 : decode cX8_write 15 = .ok (.iadd, 1) := by decide +kernel
theorem dX8_write_16 : decode cX8_write 16 = .ok (.iload_n 2, 1) := by decide +kernel
theorem dX8_write_17 : decode cX8_write 17 = .ok (.iastore, 1) := by decide +kernel
theorem dX8_write_18 : decode cX8_write 18 = .ok (.aload_n 0, 1) := by decide +kernel
theorem dX8_write_19 : decode cX8_write 19 = .ok (.getfield 37, 3) := by decide +kernel
theorem dX8_write_22 : decode cX8_write 22 = .ok (.iload_n 1, 1) := by decide +kernel
theorem dX8_write_23 : decode cX8_write 23 = .ok (.dup2, 1) := by decide +kernel
theorem dX8_write_24 : decode cX8_write 24 = .ok (.iaload, 1) := by decide +kernel
theorem dX8_write_25 : decode cX8_write 25 = .ok (.iconst 1, 1) := by decide +kernel
theorem dX8_write_26 : decode cX8_write 26 = .ok (.iadd, 1) := by decide +kernel
theorem dX8_write_27 : decode cX8_write 27 = .ok (.iastore, 1) := by decide +kernel
theorem dX8_write_28 : decode cX8_write 28 = .ok (.return_, 1) := by decide +kernel
theorem dX8_bytesOf_0 : decode cX8_bytesOf 0 = .ok (.iconst 1, 1) := by decide +kernel
theorem dX8_bytesOf_1 : decode cX8_bytesOf 1 = .ok (.istore_n 1, 1) := by decide +kernel
theorem dX8_bytesOf_2 : decode cX8_bytesOf 2 = .ok (.iload_n 0, 1) := by decide +kernel
theorem dX8_bytesOf_3 : decode cX8_bytesOf 3 = .ok (.bipush 7, 2) := by decide +kernel
theorem dX8_bytesOf_5 : decode cX8_bytesOf 5 = .ok (.ishr, 1) := by decide +kernel
theorem dX8_bytesOf_6 : decode cX8_bytesOf 6 = .ok (.istore_n 2, 1) := by decide +kernel
theorem dX8_bytesOf_7 : decode cX8_bytesOf 7 = .ok (.iload_n 2, 1) := by decide +kernel
theorem dX8_bytesOf_8 : decode cX8_bytesOf 8 = .ok (.ifCond .le 14, 3) := by decide +kernel
theorem dX8_bytesOf_11 : decode cX8_bytesOf 11 = .ok (.iinc 1 1, 3) := by decide +kernel
theorem dX8_bytesOf_14 : decode cX8_bytesOf 14 = .ok (.iload_n 2, 1) := by decide +kernel
theorem dX8_bytesOf_15 : decode cX8_bytesOf 15 = .ok (.bipush 7, 2) := by decide +kernel
theorem dX8_bytesOf_17 : decode cX8_bytesOf 17 = .ok (.ishr, 1) := by decide +kernel
theorem dX8_bytesOf_18 : decode cX8_bytesOf 18 = .ok (.istore_n 2, 1) := by decide +kernel
theorem dX8_bytesOf_19 : decode cX8_bytesOf 19 = .ok (.goto (-12), 3) := by decide +kernel
theorem dX8_bytesOf_22 : decode cX8_bytesOf 22 = .ok (.iload_n 1, 1) := by decide +kernel
theorem dX8_bytesOf_23 : decode cX8_bytesOf 23 = .ok (.ireturn, 1) := by decide +kernel
theorem dX8_byteOf_0 : decode cX8_byteOf 0 = .ok (.iload_n 0, 1) := by decide +kernel
theorem dX8_byteOf_1 : decode cX8_byteOf 1 = .ok (.bipush 7, 2) := by decide +kernel
theorem dX8_byteOf_3 : decode cX8_byteOf 3 = .ok (.iload_n 1, 1) := by decide +kernel
theorem dX8_byteOf_4 : decode cX8_byteOf 4 = .ok (.iconst 1, 1) := by decide +kernel
theorem dX8_byteOf_5 : decode cX8_byteOf 5 = .ok (.isub, 1) := by decide +kernel
theorem dX8_byteOf_6 : decode cX8_byteOf 6 = .ok (.iload_n 2, 1) := by decide +kernel
theorem dX8_byteOf_7 : decode cX8_byteOf 7 = .ok (.isub, 1) := by decide +kernel
theorem dX8_byteOf_8 : decode cX8_byteOf 8 = .ok (.imul, 1) := by decide +kernel
theorem dX8_byteOf_9 : decode cX8_byteOf 9 = .ok (.ishr, 1) := by decide +kernel
theorem dX8_byteOf_10 : decode cX8_byteOf 10 = .ok (.bipush 127, 2) := by decide +kernel
theorem dX8_byteOf_12 : decode cX8_byteOf 12 = .ok (.iand, 1) := by decide +kernel
theorem dX8_byteOf_13 : decode cX8_byteOf 13 = .ok (.iload_n 2, 1) := by decide +kernel
theorem dX8_byteOf_14 : decode cX8_byteOf 14 = .ok (.iload_n 1, 1) := by decide +kernel
theorem dX8_byteOf_15 : decode cX8_byteOf 15 = .ok (.iconst 1, 1) := by decide +kernel
theorem dX8_byteOf_16 : decode cX8_byteOf 16 = .ok (.isub, 1) := by decide +kernel
theorem dX8_byteOf_17 : decode cX8_byteOf 17 = .ok (.if_icmp .ge 9, 3) := by decide +kernel
theorem dX8_byteOf_20 : decode cX8_byteOf 20 = .ok (.sipush 128, 3) := by decide +kernel
theorem dX8_byteOf_23 : decode cX8_byteOf 23 = .ok (.goto 4, 3) := by decide +kernel
theorem dX8_byteOf_26 : decode cX8_byteOf 26 = .ok (.iconst 0, 1) := by decide +kernel
theorem dX8_byteOf_27 : decode cX8_byteOf 27 = .ok (.iadd, 1) := by decide +kernel
theorem dX8_byteOf_28 : decode cX8_byteOf 28 = .ok (.ireturn, 1) := by decide +kernel
set_option maxRecDepth 20000 in
theorem ggX8_writeInteger_X8_bytesOf : GoodIn wsX8_writeInteger wsX8_bytesOf := goodIn_r _ [4] (by decide +kernel) (by decide +kernel)
set_option maxRecDepth 20000 in
theorem gX8_writeInteger_X8_bytesOf : GoodIn wsX8_writeInteger (va_wsS RX8 66 yX8_bytesOf wsX8_bytesOf) := goodIn_app (goodIn_of _ (by decide +kernel)) ggX8_writeInteger_X8_bytesOf
set_option maxRecDepth 20000 in
theorem ggX8_writeInteger_X8_byteOf : GoodIn wsX8_writeInteger wsX8_byteOf := goodIn_r _ [7] (by decide +kernel) (by decide +kernel)
set_option maxRecDepth 20000 in
theorem gX8_writeInteger_X8_byteOf : GoodIn wsX8_writeInteger (va_wsS RX8 69 yX8_byteOf wsX8_byteOf) := goodIn_app (goodIn_of _ (by decide +kernel)) ggX8_writeInteger_X8_byteOf
set_option maxRecDepth 20000 in
theorem ggX8_writeInteger_X8_write : GoodIn wsX8_writeInteger wsX8_write := goodIn_r _ [11, 12, 13, 14, 15, 16, 17, 18, 19, 20, 21, 22, 23, 24, 25, 26, 27, 28, 29, 30, 31, 32, 33, 34] (by decide +kernel) (by decide +kernel)
set_option maxRecDepth 20000 in
theorem gX8_writeInteger_X8_write : GoodIn wsX8_writeInteger (wsV RX8 73 RX8 yX8_write wsX8_write) := goodIn_app (goodIn_of _ (by decide +kernel)) ggX8_writeInteger_X8_write
theorem dX8_writeInteger_0 : decode cX8_writeInteger 0 = .ok (.iload_n 2, 1) := by decide +kernel
theorem dX8_writeInteger_1 : decode cX8_writeInteger 1 = .ok (.invokestatic 66, 3) := by decide +kernel
theorem dX8_writeInteger_4 : decode cX8_writeInteger 4 = .ok (.istore_n 3, 1) := by decide +kernel
theorem dX8_writeInteger_5 : decode cX8_writeInteger 5 = .ok (.iconst 0, 1) := by decide +kernel
theorem dX8_writeInteger_6 : decode cX8_writeInteger 6 = .ok (.istore 4, 2) := by decide +kernel
theorem dX8_writeInteger_8 : decode cX8_writeInteger 8 = .ok (.iload 4, 2) := by decide +kernel
theorem dX8_writeInteger_10 : decode cX8_writeInteger 10 = .ok (.iload_n 3, 1) := by decide +kernel
theorem dX8_writeInteger_11 : decode cX8_writeInteger 11 = .ok (.if_icmp .ge 21, 3) := by decide +kernel
theorem dX8_writeInteger_14 : decode cX8_writeInteger 14 = .ok (.aload_n 0, 1) := by decide +kernel
theorem dX8_writeInteger_15 : decode cX8_writeInteger 15 = .ok (.iload_n 1, 1) := by decide +kernel
theorem dX8_writeInteger_16 : decode cX8_writeInteger 16 = .ok (.iload_n 2, 1) := by decide +kernel
theorem dX8_writeInteger_17 : decode cX8_writeInteger 17 = .ok (.iload_n 3, 1) := by decide +kernel
theorem dX8_writeInteger_18 : decode cX8_writeInteger 18 = .ok (.iload 4, 2) := by decide +kernel
theorem dX8_writeInteger_20 : decode cX8_writeInteger 20 = .ok (.invokestatic 69, 3) := by decide +kernel
theorem dX8_writeInteger_23 : decode cX8_writeInteger 23 = .ok (.invokevirtual 73, 3) := by decide +kernel
theorem dX8_writeInteger_26 : decode cX8_writeInteger 26 = .ok (.iinc 4 1, 3) := by decide +kernel
theorem dX8_writeInteger_29 : decode cX8_writeInteger 29 = .ok (.goto (-21), 3) := by decide +kernel
theorem dX8_writeInteger_32 : decode cX8_writeInteger 32 = .ok (.return_, 1) := by decide +kernel
set_option maxRecDepth 20000 in
theorem ggX8_appendInteger_X8_bytesOf : GoodIn wsX8_appendInteger wsX8_bytesOf := goodIn_r _ [4] (by decide +kernel) (by decide +kernel)
set_option maxRecDepth 20000 in
theorem gX8_appendInteger_X8_bytesOf : GoodIn wsX8_appendInteger (va_wsS RX8 66 yX8_bytesOf wsX8_bytesOf) := goodIn_app (goodIn_of _ (by decide +kernel)) ggX8_appendInteger_X8_bytesOf
set_option maxRecDepth 20000 in
theorem ggX8_appendInteger_X8_byteOf : GoodIn wsX8_appendInteger wsX8_byteOf := goodIn_r _ [7] (by decide +kernel) (by decide +kernel)
set_option maxRecDepth 20000 in
theorem gX8_appendInteger_X8_byteOf : GoodIn wsX8_appendInteger (va_wsS RX8 69 yX8_byteOf wsX8_byteOf) := goodIn_app (goodIn_of _ (by decide +kernel)) ggX8_appendInteger_X8_byteOf
set_option maxRecDepth 20000 in
theorem ggX8_appendInteger_X8_append : GoodIn wsX8_appendInteger wsX8_append := goodIn_r _ [11, 12, 13, 14, 15, 16, 17, 18, 19, 20, 21, 22, 23, 24, 25, 26, 27, 28, 29, 30, 31, 32, 33, 34] (by decide +kernel) (by decide +kernel)
set_option maxRecDepth 20000 in
theorem gX8_appendInteger_X8_append : GoodIn wsX8_appendInteger (wsV RX8 54 RX8 yX8_append wsX8_append) := goodIn_app (goodIn_of _ (by decide +kernel)) ggX8_appendInteger_X8_append
theorem dX8_appendInteger_0 : decode cX8_appendInteger 0 = .ok (.iload_n 1, 1) := by decide +kernel
theorem dX8_appendInteger_1 : decode cX8_appendInteger 1 = .ok (.invokestatic 66, 3) := by decide +kernel
theorem dX8_appendInteger_4 : decode cX8_appendInteger 4 = .ok (.istore_n 2, 1) := by decide +kernel
theorem dX8_appendInteger_5 : decode cX8_appendInteger 5 = .ok (.iconst 0, 1) := by decide +kernel
theorem dX8_appendInteger_6 : decode cX8_appendInteger 6 = .ok (.istore_n 3, 1) := by decide +kernel
theorem dX8_appendInteger_7 : decode cX8_appendInteger 7 = .ok (.iload_n 3, 1) := by decide +kernel
theorem dX8_appendInteger_8 : decode cX8_appendInteger 8 = .ok (.iload_n 2, 1) := by decide +kernel
theorem dX8_appendInteger_9 : decode cX8_appendInteger 9 = .ok (.if_icmp .ge 20, 3) := by decide +kernel
theorem dX8_appendInteger_12 : decode cX8_appendInteger 12 = .ok (.aload_n 0, 1) := by decide +kernel
theorem dX8_appendInteger_13 : decode cX8_appendInteger 13 = .ok (.iconst 2, 1) := by decide +kernel
theorem dX8_appendInteger_14 : decode cX8_appendInteger 14 = .ok (.iload_n 1, 1) := by decide +kernel
theorem dX8_appendInteger_15 : decode cX8_appendInteger 15 = .ok (.iload_n 2, 1) := by decide +kernel
theorem dX8_appendInteger_16 : decode cX8_appendInteger 16 = .ok (.iload_n 3, 1) := by decide +kernel
theorem dX8_appendInteger_17 : decode cX8_appendInteger 17 = .ok (.invokestatic 69, 3) := by decide +kernel
theorem dX8_appendInteger_20 : decode cX8_appendInteger 20 = .ok (.invokevirtual 54, 3) := by decide +kernel
theorem dX8_appendInteger_23 : decode cX8_appendInteger 23 = .ok (.iinc 3 1, 3) := by decide +kernel
theorem dX8_appendInteger_26 : decode cX8_appendInteger 26 = .ok (.goto (-19), 3) := by decide +kernel
theorem dX8_appendInteger_29 : decode cX8_appendInteger 29 = .ok (.return_, 1) := by decide +kernel
theorem dX8_stringAt_0 : decode cX8_stringAt 0 = .ok (.iload_n 2, 1) := by decide +kernel
theorem dX8_stringAt_1 : decode cX8_stringAt 1 = .ok (.aload_n 0, 1) := by decide +kernel
theorem dX8_stringAt_2 : decode cX8_stringAt 2 = .ok (.getfield 13, 3) := by decide +kernel
theorem dX8_stringAt_5 : decode cX8_stringAt 5 = .ok (.iconst 0, 1) := by decide +kernel
theorem dX8_stringAt_6 : decode cX8_stringAt 6 = .ok (.iaload, 1) := by decide +kernel
theorem dX8_stringAt_7 : decode cX8_stringAt 7 = .ok (.if_icmp .ge 12, 3) := by decide +kernel
theorem dX8_stringAt_10 : decode cX8_stringAt 10 = .ok (.aload_n 0, 1) := by decide +kernel
theorem dX8_stringAt_11 : decode cX8_stringAt 11 = .ok (.getfield 7, 3) := by decide +kernel
theorem dX8_stringAt_14 : decode cX8_stringAt 14 = .ok (.iload_n 2, 1) := by decide +kernel
theorem dX8_stringAt_15 : decode cX8_stringAt 15 = .ok (.iaload, 1) := by decide +kernel
theorem dX8_stringAt_16 : decode cX8_stringAt 16 = .ok (.goto 22, 3) := by decide +kernel
theorem dX8_stringAt_19 : decode cX8_stringAt 19 = .ok (.aload_n 0, 1) := by decide +kernel
theorem dX8_stringAt_20 : decode cX8_stringAt 20 = .ok (.getfield 7, 3) := by decide +kernel
theorem dX8_stringAt_23 : decode cX8_stringAt 23 = .ok (.sipush 1000, 3) := by decide +kernel
theorem dX8_stringAt_26 : decode cX8_stringAt 26 = .ok (.iload_n 1, 1) := by decide +kernel
theorem dX8_stringAt_27 : decode cX8_stringAt 27 = .ok (.iadd, 1) := by decide +kernel
theorem dX8_stringAt_28 : decode cX8_stringAt 28 = .ok (.iload_n 2, 1) := by decide +kernel
theorem dX8_stringAt_29 : decode cX8_stringAt 29 = .ok (.iadd, 1) := by decide +kernel
theorem dX8_stringAt_30 : decode cX8_stringAt 30 = .ok (.aload_n 0, 1) := by decide +kernel
theorem dX8_stringAt_31 : decode cX8_stringAt 31 = .ok (.getfield 13, 3) := by decide +kernel
theorem dX8_stringAt_34 : decode cX8_stringAt 34 = .ok (.iconst 0, 1) := by decide +kernel
theorem dX8_stringAt_35 : decode cX8_stringAt 35 = .ok (.iaload, 1) := by decide +kernel
theorem dX8_stringAt_36 : decode cX8_stringAt 36 = .ok (.isub, 1) := by decide +kernel
theorem dX8_stringAt_37 : decode cX8_stringAt 37 = .ok (.iaload, 1) := by decide +kernel
theorem dX8_stringAt_38 : decode cX8_stringAt 38 = .ok (.ireturn, 1) := by decide +kernel
set_option maxRecDepth 20000 in
theorem ggX8_reach_X8_stringAt : GoodIn wsX8_reach wsX8_stringAt := goodIn_r _ [6, 7, 1, 8, 9, 10, 11, 12, 13, 14, 15, 16, 17, 18, 19, 20, 21, 22, 23, 24, 25, 26, 27, 28] (by decide +kernel) (by decide +kernel)
set_option maxRecDepth 20000 in
theorem gX8_reach_X8_stringAt : GoodIn wsX8_reach (wsV RX8 76 RX8 yX8_stringAt wsX8_stringAt) := goodIn_app (goodIn_of _ (by decide +kernel)) ggX8_reach_X8_stringAt
theorem dX8_reach_0 : decode cX8_reach 0 = .ok (.iconst 0, 1) := by decide +kernel
theorem dX8_reach_1 : decode cX8_reach 1 = .ok (.istore 5, 2) := by decide +kernel
theorem dX8_reach_3 : decode cX8_reach 3 = .ok (.iload_n 3, 1) := by decide +kernel
theorem dX8_reach_4 : decode cX8_reach 4 = .ok (.iload 5, 2) := by decide +kernel
theorem dX8_reach_6 : decode cX8_reach 6 = .ok (.iadd, 1) := by decide +kernel
theorem dX8_reach_7 : decode cX8_reach 7 = .ok (.iload_n 2, 1) := by decide +kernel
theorem dX8_reach_8 : decode cX8_reach 8 = .ok (.if_icmp .ge 35, 3) := by decide +kernel
theorem dX8_reach_11 : decode cX8_reach 11 = .ok (.aload_n 0, 1) := by decide +kernel
theorem dX8_reach_12 : decode cX8_reach 12 = .ok (.iload_n 1, 1) := by decide +kernel
theorem dX8_reach_13 : decode cX8_reach 13 = .ok (.iload 4, 2) := by decide +kernel
theorem dX8_reach_15 : decode cX8_reach 15 = .ok (.iload 5, 2) := by decide +kernel
theorem dX8_reach_17 : decode cX8_reach 17 = .ok (.iadd, 1) := by decide +kernel
theorem dX8_reach_18 : decode cX8_reach 18 = .ok (.invokevirtual 76, 3) := by decide +kernel
theorem dX8_reach_21 : decode cX8_reach 21 = .ok (.aload_n 0, 1) := by decide +kernel
theorem dX8_reach_22 : decode cX8_reach 22 = .ok (.getfield 7, 3) := by decide +kernel
theorem dX8_reach_25 : decode cX8_reach 25 = .ok (.sipush 1000, 3) := by decide +kernel
theorem dX8_reach_28 : decode cX8_reach 28 = .ok (.iload_n 3, 1) := by decide +kernel
theorem dX8_reach_29 : decode cX8_reach 29 = .ok (.iadd, 1) := by decide +kernel
theorem dX8_reach_30 : decode cX8_reach 30 = .ok (.iload 5, 2) := by decide +kernel
theorem dX8_reach_32 : decode cX8_reach 32 = .ok (.iadd, 1) := by decide +kernel
theorem dX8_reach_33 : decode cX8_reach 33 = .ok (.iaload, 1) := by decide +kernel
theorem dX8_reach_34 : decode cX8_reach 34 = .ok (.if_icmp .ne 9, 3) := by decide +kernel
theorem dX8_reach_37 : decode cX8_reach 37 = .ok (.iinc 5 1, 3) := by decide +kernel
theorem dX8_reach_40 : decode cX8_reach 40 = .ok (.goto (-37), 3) := by decide +kernel
theorem dX8_reach_43 : decode cX8_reach 43 = .ok (.iload 5, 2) := by decide +kernel
theorem dX8_reach_45 : decode cX8_reach 45 = .ok (.ireturn, 1) := by decide +kernel
theorem dX8_runFrom_0 : decode cX8_runFrom 0 = .ok (.iconst 1, 1) := by decide +kernel
theorem dX8_runFrom_1 : decode cX8_runFrom 1 = .ok (.istore_n 3, 1) := by decide +kernel
theorem dX8_runFrom_2 : decode cX8_runFrom 2 = .ok (.iload_n 1, 1) := by decide +kernel
theorem dX8_runFrom_3 : decode cX8_runFrom 3 = .ok (.iload_n 3, 1) := by decide +kernel
theorem dX8_runFrom_4 : decode cX8_runFrom 4 = .ok (.iadd, 1) := by decide +kernel
theorem dX8_runFrom_5 : decode cX8_runFrom 5 = .ok (.iload_n 2, 1) := by decide +kernel
theorem dX8_runFrom_6 : decode cX8_runFrom 6 = .ok (.if_icmp .ge 34, 3) := by decide +kernel
theorem dX8_runFrom_9 : decode cX8_runFrom 9 = .ok (.aload_n 0, 1) := by decide +kernel
theorem dX8_runFrom_10 : decode cX8_runFrom 10 = .ok (.getfield 7, 3) := by decide +kernel
theorem dX8_runFrom_13 : decode cX8_runFrom 13 = .ok (.sipush 1000, 3) := by decide +kernel
theorem dX8_runFrom_16 : decode cX8_runFrom 16 = .ok (.iload_n 1, 1) := by decide +kernel
theorem dX8_runFrom_17 : decode cX8_runFrom 17 = .ok (.iadd, 1) := by decide +kernel
theorem dX8_runFrom_18 : decode cX8_runFrom 18 = .ok (.iload_n 3, 1) := by decide +kernel
theorem dX8_runFrom_19 : decode cX8_runFrom 19 = .ok (.iadd, 1) := by decide +kernel
theorem dX8_runFrom_20 : decode cX8_runFrom 20 = .ok (.iaload, 1) := by decide +kernel
theorem dX8_runFrom_21 : decode cX8_runFrom 21 = .ok (.aload_n 0, 1) := by decide +kernel
theorem dX8_runFrom_22 : decode cX8_runFrom 22 = .ok (.getfield 7, 3) := by decide +kernel
theorem dX8_runFrom_25 : decode cX8_runFrom 25 = .ok (.sipush 1000, 3) := by decide +kernel
theorem dX8_runFrom_28 : decode cX8_runFrom 28 = .ok (.iload_n 1, 1) := by decide +kernel
theorem dX8_runFrom_29 : decode cX8_runFrom 29 = .ok (.iadd, 1) := by decide +kernel
theorem dX8_runFrom_30 : decode cX8_runFrom 30 = .ok (.iaload, 1) := by decide +kernel
theorem dX8_runFrom_31 : decode cX8_runFrom 31 = .ok (.if_icmp .ne 9, 3) := by decide +kernel
theorem dX8_runFrom_34 : decode cX8_runFrom 34 = .ok (.iinc 3 1, 3) := by decide +kernel
theorem dX8_runFrom_37 : decode cX8_runFrom 37 = .ok (.goto (-35), 3) := by decide +kernel
theorem dX8_runFrom_40 : decode cX8_runFrom 40 = .ok (.iload_n 3, 1) := by decide +kernel
theorem dX8_runFrom_41 : decode cX8_runFrom 41 = .ok (.ireturn, 1) := by decide +kernel
theorem dX8_instruct_0 : decode cX8_instruct 0 = .ok (.aload_n 0, 1) := by decide +kernel
theorem dX8_instruct_1 : decode cX8_instruct 1 = .ok (.getfield 25, 3) := by decide +kernel
theorem dX8_instruct_4 : decode cX8_instruct 4 = .ok (.aload_n 0, 1) := by decide +kernel
theorem dX8_instruct_5 : decode cX8_instruct 5 = .ok (.getfield 79, 3) := by decide +kernel
theorem dX8_instruct_8 : decode cX8_instruct 8 = .ok (.iload_n 1, 1) := by decide +kernel
theorem dX8_instruct_9 : decode cX8_instruct 9 = .ok (.iastore, 1) := by decide +kernel
theorem dX8_instruct_10 : decode cX8_instruct 10 = .ok (.aload_n 0, 1) := by decide +kernel
theorem dX8_instruct_11 : decode cX8_instruct 11 = .ok (.getfield 28, 3) := by decide +kernel
theorem dX8_instruct_14 : decode cX8_instruct 14 = .ok (.aload_n 0, 1) := by decide +kernel
theorem dX8_instruct_15 : decode cX8_instruct 15 = .ok (.getfield 79, 3) := by decide +kernel
theorem dX8_instruct_18 : decode cX8_instruct 18 = .ok (.iload_n 2, 1) := by decide +kernel
theorem dX8_instruct_19 : decode cX8_instruct 19 = .ok (.iastore, 1) := by decide +kernel
theorem dX8_instruct_20 : decode cX8_instruct 20 = .ok (.aload_n 0, 1) := by decide +kernel
theorem dX8_instruct_21 : decode cX8_instruct 21 = .ok (.getfield 31, 3) := by decide +kernel
theorem dX8_instruct_24 : decode cX8_instruct 24 = .ok (.aload_n 0, 1) := by decide +kernel
theorem dX8_instruct_25 : decode cX8_instruct 25 = .ok (.getfield 79, 3) := by decide +kernel
theorem dX8_instruct_28 : decode cX8_instruct 28 = .ok (.iload_n 3, 1) := by decide +kernel
theorem dX8_instruct_29 : decode cX8_instruct 29 = .ok (.iastore, 1) := by decide +kernel
theorem dX8_instruct_30 : decode cX8_instruct 30 = .ok (.aload_n 0, 1) := by decide +kernel
theorem dX8_instruct_31 : decode cX8_instruct 31 = .ok (.dup, 1) := by decide +kernel
theorem dX8_instruct_32 : decode cX8_instruct 32 = .ok (.getfield 79, 3) := by decide +kernel
theorem dX8_instruct_35 : decode cX8_instruct 35 = .ok (.iconst 1, 1) := by decide +kernel
theorem dX8_instruct_36 : decode cX8_instruct 36 = .ok (.iadd, 1) := by decide +kernel
theorem dX8_instruct_37 : decode cX8_instruct 37 = .ok (.putfield 79, 3) := by decide +kernel
theorem dX8_instruct_40 : decode cX8_instruct 40 = .ok (.return_, 1) := by decide +kernel
set_option maxRecDepth 20000 in
theorem ggX8_addByte_X8_instruct : GoodIn wsX8_addByte wsX8_instruct := goodIn_r _ [8, 2, 1, 3, 9, 16, 17, 18, 19, 20, 21, 22, 23, 24, 25, 26, 27, 28, 29, 30, 31, 32, 33, 34, 35, 36] (by decide +kernel) (by decide +kernel)
set_option maxRecDepth 20000 in
theorem gX8_addByte_X8_instruct : GoodIn wsX8_addByte (wsV RX8 82 RX8 yX8_instruct wsX8_instruct) := goodIn_app (goodIn_of _ (by decide +kernel)) ggX8_addByte_X8_instruct
set_option maxRecDepth 20000 in
theorem ggX8_addByte_X8_write : GoodIn wsX8_addByte wsX8_write := goodIn_r _ [13, 14, 15, 16, 17, 18, 19, 20, 21, 22, 23, 24, 25, 26, 27, 28, 29, 30, 31, 32, 33, 34, 35, 36] (by decide +kernel) (by decide +kernel)
set_option maxRecDepth 20000 in
theorem gX8_addByte_X8_write : GoodIn wsX8_addByte (wsV RX8 73 RX8 yX8_write wsX8_write) := goodIn_app (goodIn_of _ (by decide +kernel)) ggX8_addByte_X8_write
theorem dX8_addByte_0 : decode cX8_addByte 0 = .ok (.aload_n 0, 1) := by decide +kernel
theorem dX8_addByte_1 : decode cX8_addByte 1 = .ok (.getfield 79, 3) := by decide +kernel
theorem dX8_addByte_4 : decode cX8_addByte 4 = .ok (.ifCond .le 36, 3) := by decide +kernel
theorem dX8_addByte_7 : decode cX8_addByte 7 = .ok (.aload_n 0, 1) := by decide +kernel
theorem dX8_addByte_8 : decode cX8_addByte 8 = .ok (.getfield 25, 3) := by decide +kernel
theorem dX8_addByte_11 : decode cX8_addByte 11 = .ok (.aload_n 0, 1) := by decide +kernel
theorem dX8_addByte_12 : decode cX8_addByte 12 = .ok (.getfield 79, 3) := by decide +kernel
theorem dX8_addByte_15 : decode cX8_addByte 15 = .ok (.iconst 1, 1) := by decide +kernel
theorem dX8_addByte_16 : decode cX8_addByte 16 = .ok (.isub, 1) := by decide +kernel
theorem dX8_addByte_17 : decode cX8_addByte 17 = .ok (.iaload, 1) := by decide +kernel
theorem dX8_addByte_18 : decode cX8_addByte 18 = .ok (.iconst 1, 1) := by decide +kernel
theorem dX8_addByte_19 : decode cX8_addByte 19 = .ok (.if_icmp .ne 21, 3) := by decide +kernel
theorem dX8_addByte_22 : decode cX8_addByte 22 = .ok (.aload_n 0, 1) := by decide +kernel
theorem dX8_addByte_23 : decode cX8_addByte 23 = .ok (.getfield 28, 3) := by decide +kernel
theorem dX8_addByte_26 : decode cX8_addByte 26 = .ok (.aload_n 0, 1) := by decide +kernel
theorem dX8_addByte_27 : decode cX8_addByte 27 = .ok (.getfield 79, 3) := by decide +kernel
theorem dX8_addByte_30 : decode cX8_addByte 30 = .ok (.iconst 1, 1) := by decide +kernel
theorem dX8_addByte_31 : decode cX8_addByte 31 = .ok (.isub, 1) := by decide +kernel
theorem dX8_addByte_32 : decode cX8_addByte 32 = .ok (.dup2, 1) := by decide +kernel
theorem dX8_addByte_33 : decode cX8_addByte 33 = .ok (.iaload, 1) := by decide +kernel
theorem dX8_addByte_34 : decode cX8_addByte 34 = .ok (.iconst 1, 1) := by decide +kernel
theorem dX8_addByte_35 : decode cX8_addByte 35 = .ok (.iadd, 1) := by decide +kernel
theorem dX8_addByte_36 : decode cX8_addByte 36 = .ok (.iastore, 1) := by decide +kernel
theorem dX8_addByte_37 : decode cX8_addByte 37 = .ok (.goto 10, 3) := by decide +kernel
theorem dX8_addByte_40 : decode cX8_addByte 40 = .ok (.aload_n 0, 1) := by decide +kernel
theorem dX8_addByte_41 : decode cX8_addByte 41 = .ok (.iconst 1, 1) := by decide +kernel
theorem dX8_addByte_42 : decode cX8_addByte 42 = .ok (.iconst 1, 1) := by decide +kernel
theorem dX8_addByte_43 : decode cX8_addByte 43 = .ok (.iconst 0, 1) := by decide +kernel
theorem dX8_addByte_44 : decode cX8_addByte 44 = .ok (.invokevirtual 82, 3) := by decide +kernel
theorem dX8_addByte_47 : decode cX8_addByte 47 = .ok (.aload_n 0, 1) := by decide +kernel
theorem dX8_addByte_48 : decode cX8_addByte 48 = .ok (.iconst 0, 1) := by decide +kernel
theorem dX8_addByte_49 : decode cX8_addByte 49 = .ok (.iload_n 1, 1) := by decide +kernel
theorem dX8_addByte_50 : decode cX8_addByte 50 = .ok (.invokevirtual 73, 3) := by decide +kernel
theorem dX8_addByte_53 : decode cX8_addByte 53 = .ok (.return_, 1) := by decide +kernel
theorem dX8_distance_0 : decode cX8_distance 0 = .ok (.iload_n 1, 1) := by decide +kernel
theorem dX8_distance_1 : decode cX8_distance 1 = .ok (.ifCond .ne 7, 3) := by decide +kernel
theorem dX8_distance_4 : decode cX8_distance 4 = .ok (.iload_n 2, 1) := by decide +kernel
theorem dX8_distance_5 : decode cX8_distance 5 = .ok (.goto 24, 3) := by decide +kernel
theorem dX8_distance_8 : decode cX8_distance 8 = .ok (.iload_n 1, 1) := by decide +kernel
theorem dX8_distance_9 : decode cX8_distance 9 = .ok (.iconst 1, 1) := by decide +kernel
theorem dX8_distance_10 : decode cX8_distance 10 = .ok (.if_icmp .ne 9, 3) := by decide +kernel
theorem dX8_distance_13 : decode cX8_distance 13 = .ok (.iload_n 3, 1) := by decide +kernel
theorem dX8_distance_14 : decode cX8_distance 14 = .ok (.iload_n 2, 1) := by decide +kernel
theorem dX8_distance_15 : decode cX8_distance 15 = .ok (.isub, 1) := by decide +kernel
theorem dX8_distance_16 : decode cX8_distance 16 = .ok (.goto 13, 3) := by decide +kernel
theorem dX8_distance_19 : decode cX8_distance 19 = .ok (.iload_n 2, 1) := by decide +kernel
theorem dX8_distance_20 : decode cX8_distance 20 = .ok (.aload_n 0, 1) := by decide +kernel
theorem dX8_distance_21 : decode cX8_distance 21 = .ok (.getfield 16, 3) := by decide +kernel
theorem dX8_distance_24 : decode cX8_distance 24 = .ok (.iload_n 1, 1) := by decide +kernel
theorem dX8_distance_25 : decode cX8_distance 25 = .ok (.iconst 2, 1) := by decide +kernel
theorem dX8_distance_26 : decode cX8_distance 26 = .ok (.isub, 1) := by decide +kernel
theorem dX8_distance_27 : decode cX8_distance 27 = .ok (.iaload, 1) := by decide +kernel
theorem dX8_distance_28 : decode cX8_distance 28 = .ok (.isub, 1) := by decide +kernel
theorem dX8_distance_29 : decode cX8_distance 29 = .ok (.ireturn, 1) := by decide +kernel
set_option maxRecDepth 20000 in
theorem ggX8_copy_X8_distance : GoodIn wsX8_copy wsX8_distance := goodIn_r _ [6, 7, 37, 38, 39, 40, 41, 42, 43, 44, 45, 46, 47, 48, 49, 50, 51, 52, 53, 54, 55, 56, 57] (by decide +kernel) (by decide +kernel)
set_option maxRecDepth 20000 in
theorem gX8_copy_X8_distance : GoodIn wsX8_copy (wsV RX8 86 RX8 yX8_distance wsX8_distance) := goodIn_app (goodIn_of _ (by decide +kernel)) ggX8_copy_X8_distance
set_option maxRecDepth 20000 in
theorem ggX8_copy_X8_write : GoodIn wsX8_copy wsX8_write := goodIn_r _ [11, 12, 13, 37, 38, 39, 40, 41, 42, 43, 44, 45, 46, 47, 48, 49, 50, 51, 52, 53, 54, 55, 56, 57] (by decide +kernel) (by decide +kernel)
set_option maxRecDepth 20000 in
theorem gX8_copy_X8_write : GoodIn wsX8_copy (wsV RX8 73 RX8 yX8_write wsX8_write) := goodIn_app (goodIn_of _ (by decide +kernel)) ggX8_copy_X8_write
set_option maxRecDepth 20000 in
theorem ggX8_copy_X8_writeInteger : GoodIn wsX8_copy wsX8_writeInteger := goodIn_r _ [17, 18, 19, 5, 20, 21, 22, 23, 8, 9, 10, 11, 12, 13, 37, 38, 39, 40, 41, 42, 43, 44, 45, 46, 47, 48, 49, 50, 51, 52, 53, 54, 55, 56, 57] (by decide +kernel) (by decide +kernel)
set_option maxRecDepth 20000 in
theorem gX8_copy_X8_writeInteger : GoodIn wsX8_copy (wsV RX8 89 RX8 yX8_writeInteger wsX8_writeInteger) := goodIn_app (goodIn_of _ (by decide +kernel)) ggX8_copy_X8_writeInteger
set_option maxRecDepth 20000 in
theorem ggX8_copy_X8_instruct : GoodIn wsX8_copy wsX8_instruct := goodIn_r _ [27, 28, 29, 30, 31, 37, 38, 39, 40, 41, 42, 43, 44, 45, 46, 47, 48, 49, 50, 51, 52, 53, 54, 55, 56, 57] (by decide +kernel) (by decide +kernel)
set_option maxRecDepth 20000 in
theorem gX8_copy_X8_instruct : GoodIn wsX8_copy (wsV RX8 82 RX8 yX8_instruct wsX8_instruct) := goodIn_app (goodIn_of _ (by decide +kernel)) ggX8_copy_X8_instruct
set_option maxRecDepth 20000 in
theorem ggX8_copy_X8_note : GoodIn wsX8_copy wsX8_note := goodIn_r _ [35, 7, 36, 1, 37, 38, 39, 40, 41, 42, 43, 44, 45, 46, 47, 48, 49, 50, 51, 52, 53, 54, 55, 56, 57] (by decide +kernel) (by decide +kernel)
set_option maxRecDepth 20000 in
theorem gX8_copy_X8_note : GoodIn wsX8_copy (wsV RX8 92 RX8 yX8_note wsX8_note) := goodIn_app (goodIn_of _ (by decide +kernel)) ggX8_copy_X8_note
theorem dX8_copy_0 : decode cX8_copy 0 = .ok (.iconst 0, 1) := by decide +kernel
theorem dX8_copy_1 : decode cX8_copy 1 = .ok (.istore 4, 2) := by decide +kernel
theorem dX8_copy_3 : decode cX8_copy 3 = .ok (.iconst 1, 1) := by decide +kernel
theorem dX8_copy_4 : decode cX8_copy 4 = .ok (.istore 5, 2) := by decide +kernel
theorem dX8_copy_6 : decode cX8_copy 6 = .ok (.iload 5, 2) := by decide +kernel
theorem dX8_copy_8 : decode cX8_copy 8 = .ok (.bipush 6, 2) := by decide +kernel
theorem dX8_copy_10 : decode cX8_copy 10 = .ok (.if_icmp .ge 48, 3) := by decide +kernel
theorem dX8_copy_13 : decode cX8_copy 13 = .ok (.aload_n 0, 1) := by decide +kernel
theorem dX8_copy_14 : decode cX8_copy 14 = .ok (.iload 5, 2) := by decide +kernel
theorem dX8_copy_16 : decode cX8_copy 16 = .ok (.iload_n 1, 1) := by decide +kernel
theorem dX8_copy_17 : decode cX8_copy 17 = .ok (.iload_n 3, 1) := by decide +kernel
theorem dX8_copy_18 : decode cX8_copy 18 = .ok (.invokevirtual 86, 3) := by decide +kernel
theorem dX8_copy_21 : decode cX8_copy 21 = .ok (.ifCond .lt 27, 3) := by decide +kernel
theorem dX8_copy_24 : decode cX8_copy 24 = .ok (.aload_n 0, 1) := by decide +kernel
theorem dX8_copy_25 : decode cX8_copy 25 = .ok (.iload 5, 2) := by decide +kernel
theorem dX8_copy_27 : decode cX8_copy 27 = .ok (.iload_n 1, 1) := by decide +kernel
theorem dX8_copy_28 : decode cX8_copy 28 = .ok (.iload_n 3, 1) := by decide +kernel
theorem dX8_copy_29 : decode cX8_copy 29 = .ok (.invokevirtual 86, 3) := by decide +kernel
theorem dX8_copy_32 : decode cX8_copy 32 = .ok (.aload_n 0, 1) := by decide +kernel
theorem dX8_copy_33 : decode cX8_copy 33 = .ok (.iload 4, 2) := by decide +kernel
theorem dX8_copy_35 : decode cX8_copy 35 = .ok (.iload_n 1, 1) := by decide +kernel
theorem dX8_copy_36 : decode cX8_copy 36 = .ok (.iload_n 3, 1) := by decide +kernel
theorem dX8_copy_37 : decode cX8_copy 37 = .ok (.invokevirtual 86, 3) := by decide +kernel
theorem dX8_copy_40 : decode cX8_copy 40 = .ok (.if_icmp .ge 8, 3) := by decide +kernel
theorem dX8_copy_43 : decode cX8_copy 43 = .ok (.iload 5, 2) := by decide +kernel
theorem dX8_copy_45 : decode cX8_copy 45 = .ok (.goto 5, 3) := by decide +kernel
theorem dX8_copy_48 : decode cX8_copy 48 = .ok (.iload 4, 2) := by decide +kernel
theorem dX8_copy_50 : decode cX8_copy 50 = .ok (.istore 4, 2) := by decide +kernel
theorem dX8_copy_52 : decode cX8_copy 52 = .ok (.iinc 5 1, 3) := by decide +kernel
theorem dX8_copy_55 : decode cX8_copy 55 = .ok (.goto (-49), 3) := by decide +kernel
theorem dX8_copy_58 : decode cX8_copy 58 = .ok (.aload_n 0, 1) := by decide +kernel
theorem dX8_copy_59 : decode cX8_copy 59 = .ok (.getfield 19, 3) := by decide +kernel
theorem dX8_copy_62 : decode cX8_copy 62 = .ok (.iload_n 1, 1) := by decide +kernel
theorem dX8_copy_63 : decode cX8_copy 63 = .ok (.sipush 768, 3) := by decide +kernel
theorem dX8_copy_66 : decode cX8_copy 66 = .ok (.irem, 1) := by decide +kernel
theorem dX8_copy_67 : decode cX8_copy 67 = .ok (.iaload, 1) := by decide +kernel
theorem dX8_copy_68 : decode cX8_copy 68 = .ok (.iload_n 1, 1) := by decide +kernel
theorem dX8_copy_69 : decode cX8_copy 69 = .ok (.if_icmp .ne 34, 3) := by decide +kernel
theorem dX8_copy_72 : decode cX8_copy 72 = .ok (.bipush 6, 2) := by decide +kernel
theorem dX8_copy_74 : decode cX8_copy 74 = .ok (.iload_n 1, 1) := by decide +kernel
theorem dX8_copy_75 : decode cX8_copy 75 = .ok (.sipush 768, 3) := by decide +kernel
theorem dX8_copy_78 : decode cX8_copy 78 = .ok (.irem, 1) := by decide +kernel
theorem dX8_copy_79 : decode cX8_copy 79 = .ok (.sipush 256, 3) := by decide +kernel
end
section
theorem dX8_copy_82 : decode cX8_copy 82 = .ok (.idiv, 1) := by decide +kernel
theorem dX8_copy_83 : decode cX8_copy 83 = .ok (.iadd, 1) := by decide +kernel
theorem dX8_copy_84 : decode cX8_copy 84 = .ok (.istore 4, 2) := by decide +kernel
theorem dX8_copy_86 : decode cX8_copy 86 = .ok (.aload_n 0, 1) := by decide +kernel
theorem dX8_copy_87 : decode cX8_copy 87 = .ok (.iconst 2, 1) := by decide +kernel
theorem dX8_copy_88 : decode cX8_copy 88 = .ok (.iload_n 1, 1) := by decide +kernel
theorem dX8_copy_89 : decode cX8_copy 89 = .ok (.sipush 768, 3) := by decide +kernel
theorem dX8_copy_92 : decode cX8_copy 92 = .ok (.irem, 1) := by decide +kernel
theorem dX8_copy_93 : decode cX8_copy 93 = .ok (.sipush 256, 3) := by decide +kernel
theorem dX8_copy_96 : decode cX8_copy 96 = .ok (.irem, 1) := by decide +kernel
theorem dX8_copy_97 : decode cX8_copy 97 = .ok (.invokevirtual 73, 3) := by decide +kernel
theorem dX8_copy_100 : decode cX8_copy 100 = .ok (.goto 16, 3) := by decide +kernel
theorem dX8_copy_103 : decode cX8_copy 103 = .ok (.aload_n 0, 1) := by decide +kernel
theorem dX8_copy_104 : decode cX8_copy 104 = .ok (.iconst 2, 1) := by decide +kernel
theorem dX8_copy_105 : decode cX8_copy 105 = .ok (.aload_n 0, 1) := by decide +kernel
theorem dX8_copy_106 : decode cX8_copy 106 = .ok (.iload 4, 2) := by decide +kernel
theorem dX8_copy_108 : decode cX8_copy 108 = .ok (.iload_n 1, 1) := by decide +kernel
theorem dX8_copy_109 : decode cX8_copy 109 = .ok (.iload_n 3, 1) := by decide +kernel
theorem dX8_copy_110 : decode cX8_copy 110 = .ok (.invokevirtual 86, 3) := by decide +kernel
theorem dX8_copy_113 : decode cX8_copy 113 = .ok (.invokevirtual 89, 3) := by decide +kernel
theorem dX8_copy_116 : decode cX8_copy 116 = .ok (.aload_n 0, 1) := by decide +kernel
theorem dX8_copy_117 : decode cX8_copy 117 = .ok (.iconst 3, 1) := by decide +kernel
theorem dX8_copy_118 : decode cX8_copy 118 = .ok (.iload_n 2, 1) := by decide +kernel
theorem dX8_copy_119 : decode cX8_copy 119 = .ok (.iload 4, 2) := by decide +kernel
theorem dX8_copy_121 : decode cX8_copy 121 = .ok (.invokevirtual 82, 3) := by decide +kernel
theorem dX8_copy_124 : decode cX8_copy 124 = .ok (.aload_n 0, 1) := by decide +kernel
theorem dX8_copy_125 : decode cX8_copy 125 = .ok (.iload_n 1, 1) := by decide +kernel
theorem dX8_copy_126 : decode cX8_copy 126 = .ok (.invokevirtual 92, 3) := by decide +kernel
theorem dX8_copy_129 : decode cX8_copy 129 = .ok (.return_, 1) := by decide +kernel
set_option maxRecDepth 20000 in
theorem ggX8_findInstructions_X8_reach : GoodIn wsX8_findInstructions wsX8_reach := goodIn_r _ [7, 2, 8, 9, 10, 6, 11, 1, 59, 60, 61, 62, 63, 64, 65, 66, 67, 68, 69, 70, 71, 72, 73, 74, 75, 76, 77, 78, 79] (by decide +kernel) (by decide +kernel)
set_option maxRecDepth 20000 in
theorem gX8_findInstructions_X8_reach : GoodIn wsX8_findInstructions (wsV RX8 96 RX8 yX8_reach wsX8_reach) := goodIn_app (goodIn_of _ (by decide +kernel)) ggX8_findInstructions_X8_reach
set_option maxRecDepth 20000 in
theorem ggX8_findInstructions_X8_runFrom : GoodIn wsX8_findInstructions wsX8_runFrom := goodIn_r _ [15, 2, 59, 60, 61, 62, 63, 64, 65, 66, 67, 68, 69, 70, 71, 72, 73, 74, 75, 76, 77, 78, 79] (by decide +kernel) (by decide +kernel)
set_option maxRecDepth 20000 in
theorem gX8_findInstructions_X8_runFrom : GoodIn wsX8_findInstructions (wsV RX8 100 RX8 yX8_runFrom wsX8_runFrom) := goodIn_app (goodIn_of _ (by decide +kernel)) ggX8_findInstructions_X8_runFrom
set_option maxRecDepth 20000 in
theorem ggX8_findInstructions_X8_instruct : GoodIn wsX8_findInstructions wsX8_instruct := goodIn_r _ [19, 20, 21, 22, 23, 59, 60, 61, 62, 63, 64, 65, 66, 67, 68, 69, 70, 71, 72, 73, 74, 75, 76, 77, 78, 79] (by decide +kernel) (by decide +kernel)
set_option maxRecDepth 20000 in
theorem gX8_findInstructions_X8_instruct : GoodIn wsX8_findInstructions (wsV RX8 82 RX8 yX8_instruct wsX8_instruct) := goodIn_app (goodIn_of _ (by decide +kernel)) ggX8_findInstructions_X8_instruct
set_option maxRecDepth 20000 in
theorem ggX8_findInstructions_X8_write : GoodIn wsX8_findInstructions wsX8_write := goodIn_r _ [27, 28, 29, 59, 60, 61, 62, 63, 64, 65, 66, 67, 68, 69, 70, 71, 72, 73, 74, 75, 76, 77, 78, 79] (by decide +kernel) (by decide +kernel)
set_option maxRecDepth 20000 in
theorem gX8_findInstructions_X8_write : GoodIn wsX8_findInstructions (wsV RX8 73 RX8 yX8_write wsX8_write) := goodIn_app (goodIn_of _ (by decide +kernel)) ggX8_findInstructions_X8_write
set_option maxRecDepth 20000 in
theorem ggX8_findInstructions_X8_copy : GoodIn wsX8_findInstructions wsX8_copy := goodIn_r _ [33, 34, 35, 36, 37, 6, 38, 39, 24, 25, 26, 27, 28, 29, 40, 41, 42, 43, 44, 45, 46, 47, 48, 49, 16, 17, 18, 19, 20, 21, 22, 23, 50, 51, 52, 53, 54, 59, 60, 61, 62, 63, 64, 65, 66, 67, 68, 69, 70, 71, 72, 73, 74, 75, 76, 77, 78, 79] (by decide +kernel) (by decide +kernel)
set_option maxRecDepth 20000 in
theorem gX8_findInstructions_X8_copy : GoodIn wsX8_findInstructions (wsV RX8 103 RX8 yX8_copy wsX8_copy) := goodIn_app (goodIn_of _ (by decide +kernel)) ggX8_findInstructions_X8_copy
set_option maxRecDepth 20000 in
theorem ggX8_findInstructions_X8_addByte : GoodIn wsX8_findInstructions wsX8_addByte := goodIn_r _ [58, 21, 20, 22, 16, 17, 18, 6, 19, 23, 24, 25, 26, 27, 28, 29, 59, 60, 61, 62, 63, 64, 65, 66, 67, 68, 69, 70, 71, 72, 73, 74, 75, 76, 77, 78, 79] (by decide +kernel) (by decide +kernel)
set_option maxRecDepth 20000 in
theorem gX8_findInstructions_X8_addByte : GoodIn wsX8_findInstructions (wsV RX8 106 RX8 yX8_addByte wsX8_addByte) := goodIn_app (goodIn_of _ (by decide +kernel)) ggX8_findInstructions_X8_addByte
theorem dX8_findInstructions_0 : decode cX8_findInstructions 0 = .ok (.iload_n 1, 1) := by decide +kernel
theorem dX8_findInstructions_1 : decode cX8_findInstructions 1 = .ok (.istore_n 3, 1) := by decide +kernel
theorem dX8_findInstructions_2 : decode cX8_findInstructions 2 = .ok (.iload_n 3, 1) := by decide +kernel
theorem dX8_findInstructions_3 : decode cX8_findInstructions 3 = .ok (.iload_n 2, 1) := by decide +kernel
theorem dX8_findInstructions_4 : decode cX8_findInstructions 4 = .ok (.if_icmp .ge 176, 3) := by decide +kernel
theorem dX8_findInstructions_7 : decode cX8_findInstructions 7 = .ok (.aload_n 0, 1) := by decide +kernel
theorem dX8_findInstructions_8 : decode cX8_findInstructions 8 = .ok (.getfield 13, 3) := by decide +kernel
theorem dX8_findInstructions_11 : decode cX8_findInstructions 11 = .ok (.iconst 0, 1) := by decide +kernel
theorem dX8_findInstructions_12 : decode cX8_findInstructions 12 = .ok (.iaload, 1) := by decide +kernel
theorem dX8_findInstructions_13 : decode cX8_findInstructions 13 = .ok (.iload_n 3, 1) := by decide +kernel
theorem dX8_findInstructions_14 : decode cX8_findInstructions 14 = .ok (.iadd, 1) := by decide +kernel
theorem dX8_findInstructions_15 : decode cX8_findInstructions 15 = .ok (.iload_n 1, 1) := by decide +kernel
theorem dX8_findInstructions_16 : decode cX8_findInstructions 16 = .ok (.isub, 1) := by decide +kernel
theorem dX8_findInstructions_17 : decode cX8_findInstructions 17 = .ok (.istore 4, 2) := by decide +kernel
theorem dX8_findInstructions_19 : decode cX8_findInstructions 19 = .ok (.iconst (-1), 1) := by decide +kernel
theorem dX8_findInstructions_20 : decode cX8_findInstructions 20 = .ok (.istore 5, 2) := by decide +kernel
theorem dX8_findInstructions_22 : decode cX8_findInstructions 22 = .ok (.iconst 0, 1) := by decide +kernel
theorem dX8_findInstructions_23 : decode cX8_findInstructions 23 = .ok (.istore 6, 2) := by decide +kernel
theorem dX8_findInstructions_25 : decode cX8_findInstructions 25 = .ok (.iconst 0, 1) := by decide +kernel
theorem dX8_findInstructions_26 : decode cX8_findInstructions 26 = .ok (.istore 7, 2) := by decide +kernel
theorem dX8_findInstructions_28 : decode cX8_findInstructions 28 = .ok (.iload 7, 2) := by decide +kernel
theorem dX8_findInstructions_30 : decode cX8_findInstructions 30 = .ok (.iload 4, 2) := by decide +kernel
theorem dX8_findInstructions_32 : decode cX8_findInstructions 32 = .ok (.if_icmp .ge 52, 3) := by decide +kernel
theorem dX8_findInstructions_35 : decode cX8_findInstructions 35 = .ok (.aload_n 0, 1) := by decide +kernel
theorem dX8_findInstructions_36 : decode cX8_findInstructions 36 = .ok (.iload_n 1, 1) := by decide +kernel
theorem dX8_findInstructions_37 : decode cX8_findInstructions 37 = .ok (.iload_n 2, 1) := by decide +kernel
theorem dX8_findInstructions_38 : decode cX8_findInstructions 38 = .ok (.iload_n 3, 1) := by decide +kernel
theorem dX8_findInstructions_39 : decode cX8_findInstructions 39 = .ok (.iload 7, 2) := by decide +kernel
theorem dX8_findInstructions_41 : decode cX8_findInstructions 41 = .ok (.invokevirtual 96, 3) := by decide +kernel
theorem dX8_findInstructions_44 : decode cX8_findInstructions 44 = .ok (.istore 8, 2) := by decide +kernel
theorem dX8_findInstructions_46 : decode cX8_findInstructions 46 = .ok (.iload 8, 2) := by decide +kernel
theorem dX8_findInstructions_48 : decode cX8_findInstructions 48 = .ok (.iload 6, 2) := by decide +kernel
theorem dX8_findInstructions_50 : decode cX8_findInstructions 50 = .ok (.if_icmp .le 8, 3) := by decide +kernel
theorem dX8_findInstructions_53 : decode cX8_findInstructions 53 = .ok (.iload 7, 2) := by decide +kernel
theorem dX8_findInstructions_55 : decode cX8_findInstructions 55 = .ok (.goto 5, 3) := by decide +kernel
theorem dX8_findInstructions_58 : decode cX8_findInstructions 58 = .ok (.iload 5, 2) := by decide +kernel
theorem dX8_findInstructions_60 : decode cX8_findInstructions 60 = .ok (.istore 5, 2) := by decide +kernel
theorem dX8_findInstructions_62 : decode cX8_findInstructions 62 = .ok (.iload 8, 2) := by decide +kernel
theorem dX8_findInstructions_64 : decode cX8_findInstructions 64 = .ok (.iload 6, 2) := by decide +kernel
theorem dX8_findInstructions_66 : decode cX8_findInstructions 66 = .ok (.if_icmp .le 8, 3) := by decide +kernel
theorem dX8_findInstructions_69 : decode cX8_findInstructions 69 = .ok (.iload 8, 2) := by decide +kernel
theorem dX8_findInstructions_71 : decode cX8_findInstructions 71 = .ok (.goto 5, 3) := by decide +kernel
theorem dX8_findInstructions_74 : decode cX8_findInstructions 74 = .ok (.iload 6, 2) := by decide +kernel
theorem dX8_findInstructions_76 : decode cX8_findInstructions 76 = .ok (.istore 6, 2) := by decide +kernel
theorem dX8_findInstructions_78 : decode cX8_findInstructions 78 = .ok (.iinc 7 1, 3) := by decide +kernel
theorem dX8_findInstructions_81 : decode cX8_findInstructions 81 = .ok (.goto (-53), 3) := by decide +kernel
theorem dX8_findInstructions_84 : decode cX8_findInstructions 84 = .ok (.aload_n 0, 1) := by decide +kernel
theorem dX8_findInstructions_85 : decode cX8_findInstructions 85 = .ok (.iload_n 3, 1) := by decide +kernel
theorem dX8_findInstructions_86 : decode cX8_findInstructions 86 = .ok (.iload_n 2, 1) := by decide +kernel
theorem dX8_findInstructions_87 : decode cX8_findInstructions 87 = .ok (.invokevirtual 100, 3) := by decide +kernel
theorem dX8_findInstructions_90 : decode cX8_findInstructions 90 = .ok (.istore 7, 2) := by decide +kernel
theorem dX8_findInstructions_92 : decode cX8_findInstructions 92 = .ok (.iload 7, 2) := by decide +kernel
theorem dX8_findInstructions_94 : decode cX8_findInstructions 94 = .ok (.iconst 4, 1) := by decide +kernel
theorem dX8_findInstructions_95 : decode cX8_findInstructions 95 = .ok (.if_icmp .lt 41, 3) := by decide +kernel
theorem dX8_findInstructions_98 : decode cX8_findInstructions 98 = .ok (.iload 7, 2) := by decide +kernel
theorem dX8_findInstructions_100 : decode cX8_findInstructions 100 = .ok (.iload 6, 2) := by decide +kernel
theorem dX8_findInstructions_102 : decode cX8_findInstructions 102 = .ok (.if_icmp .lt 34, 3) := by decide +kernel
theorem dX8_findInstructions_105 : decode cX8_findInstructions 105 = .ok (.aload_n 0, 1) := by decide +kernel
theorem dX8_findInstructions_106 : decode cX8_findInstructions 106 = .ok (.iconst 2, 1) := by decide +kernel
theorem dX8_findInstructions_107 : decode cX8_findInstructions 107 = .ok (.iload 7, 2) := by decide +kernel
theorem dX8_findInstructions_109 : decode cX8_findInstructions 109 = .ok (.iconst 0, 1) := by decide +kernel
theorem dX8_findInstructions_110 : decode cX8_findInstructions 110 = .ok (.invokevirtual 82, 3) := by decide +kernel
theorem dX8_findInstructions_113 : decode cX8_findInstructions 113 = .ok (.aload_n 0, 1) := by decide +kernel
theorem dX8_findInstructions_114 : decode cX8_findInstructions 114 = .ok (.iconst 0, 1) := by decide +kernel
theorem dX8_findInstructions_115 : decode cX8_findInstructions 115 = .ok (.aload_n 0, 1) := by decide +kernel
theorem dX8_findInstructions_116 : decode cX8_findInstructions 116 = .ok (.getfield 7, 3) := by decide +kernel
theorem dX8_findInstructions_119 : decode cX8_findInstructions 119 = .ok (.sipush 1000, 3) := by decide +kernel
theorem dX8_findInstructions_122 : decode cX8_findInstructions 122 = .ok (.iload_n 3, 1) := by decide +kernel
theorem dX8_findInstructions_123 : decode cX8_findInstructions 123 = .ok (.iadd, 1) := by decide +kernel
theorem dX8_findInstructions_124 : decode cX8_findInstructions 124 = .ok (.iaload, 1) := by decide +kernel
theorem dX8_findInstructions_125 : decode cX8_findInstructions 125 = .ok (.invokevirtual 73, 3) := by decide +kernel
theorem dX8_findInstructions_128 : decode cX8_findInstructions 128 = .ok (.iload_n 3, 1) := by decide +kernel
theorem dX8_findInstructions_129 : decode cX8_findInstructions 129 = .ok (.iload 7, 2) := by decide +kernel
theorem dX8_findInstructions_131 : decode cX8_findInstructions 131 = .ok (.iadd, 1) := by decide +kernel
theorem dX8_findInstructions_132 : decode cX8_findInstructions 132 = .ok (.istore_n 3, 1) := by decide +kernel
theorem dX8_findInstructions_133 : decode cX8_findInstructions 133 = .ok (.goto 44, 3) := by decide +kernel
theorem dX8_findInstructions_136 : decode cX8_findInstructions 136 = .ok (.iload 6, 2) := by decide +kernel
theorem dX8_findInstructions_138 : decode cX8_findInstructions 138 = .ok (.iconst 4, 1) := by decide +kernel
theorem dX8_findInstructions_139 : decode cX8_findInstructions 139 = .ok (.if_icmp .lt 21, 3) := by decide +kernel
theorem dX8_findInstructions_142 : decode cX8_findInstructions 142 = .ok (.aload_n 0, 1) := by decide +kernel
theorem dX8_findInstructions_143 : decode cX8_findInstructions 143 = .ok (.iload 5, 2) := by decide +kernel
theorem dX8_findInstructions_145 : decode cX8_findInstructions 145 = .ok (.iload 6, 2) := by decide +kernel
theorem dX8_findInstructions_147 : decode cX8_findInstructions 147 = .ok (.iload 4, 2) := by decide +kernel
theorem dX8_findInstructions_149 : decode cX8_findInstructions 149 = .ok (.invokevirtual 103, 3) := by decide +kernel
theorem dX8_findInstructions_152 : decode cX8_findInstructions 152 = .ok (.iload_n 3, 1) := by decide +kernel
theorem dX8_findInstructions_153 : decode cX8_findInstructions 153 = .ok (.iload 6, 2) := by decide +kernel
theorem dX8_findInstructions_155 : decode cX8_findInstructions 155 = .ok (.iadd, 1) := by decide +kernel
theorem dX8_findInstructions_156 : decode cX8_findInstructions 156 = .ok (.istore_n 3, 1) := by decide +kernel
theorem dX8_findInstructions_157 : decode cX8_findInstructions 157 = .ok (.goto 20, 3) := by decide +kernel
theorem dX8_findInstructions_160 : decode cX8_findInstructions 160 = .ok (.aload_n 0, 1) := by decide +kernel
theorem dX8_findInstructions_161 : decode cX8_findInstructions 161 = .ok (.aload_n 0, 1) := by decide +kernel
theorem dX8_findInstructions_162 : decode cX8_findInstructions 162 = .ok (.getfield 7, 3) := by decide +kernel
theorem dX8_findInstructions_165 : decode cX8_findInstructions 165 = .ok (.sipush 1000, 3) := by decide +kernel
theorem dX8_findInstructions_168 : decode cX8_findInstructions 168 = .ok (.iload_n 3, 1) := by decide +kernel
theorem dX8_findInstructions_169 : decode cX8_findInstructions 169 = .ok (.iadd, 1) := by decide +kernel
theorem dX8_findInstructions_170 : decode cX8_findInstructions 170 = .ok (.iaload, 1) := by decide +kernel
theorem dX8_findInstructions_171 : decode cX8_findInstructions 171 = .ok (.invokevirtual 106, 3) := by decide +kernel
theorem dX8_findInstructions_174 : decode cX8_findInstructions 174 = .ok (.iinc 3 1, 3) := by decide +kernel
theorem dX8_findInstructions_177 : decode cX8_findInstructions 177 = .ok (.goto (-175), 3) := by decide +kernel
theorem dX8_findInstructions_180 : decode cX8_findInstructions 180 = .ok (.return_, 1) := by decide +kernel
set_option maxRecDepth 20000 in
theorem ggX8_writeCodes_X8_find : GoodIn wsX8_writeCodes wsX8_find := goodIn_r _ [8, 9, 10, 7, 11] (by decide +kernel) (by decide +kernel)
set_option maxRecDepth 20000 in
theorem gX8_writeCodes_X8_find : GoodIn wsX8_writeCodes (va_wsS RX8 109 yX8_find wsX8_find) := goodIn_app (goodIn_of _ (by decide +kernel)) ggX8_writeCodes_X8_find
set_option maxRecDepth 20000 in
theorem ggX8_writeCodes_X8_write : GoodIn wsX8_writeCodes wsX8_write := goodIn_r _ [15, 16, 17, 28, 29, 30, 31, 32, 33, 34, 35, 36, 37, 38, 39, 40, 41, 42, 43, 44, 45, 46, 47, 48] (by decide +kernel) (by decide +kernel)
set_option maxRecDepth 20000 in
theorem gX8_writeCodes_X8_write : GoodIn wsX8_writeCodes (wsV RX8 73 RX8 yX8_write wsX8_write) := goodIn_app (goodIn_of _ (by decide +kernel)) ggX8_writeCodes_X8_write
set_option maxRecDepth 20000 in
theorem ggX8_writeCodes_X8_writeInteger : GoodIn wsX8_writeCodes wsX8_writeInteger := goodIn_r _ [21, 22, 23, 7, 24, 25, 26, 27, 12, 13, 14, 15, 16, 17, 28, 29, 30, 31, 32, 33, 34, 35, 36, 37, 38, 39, 40, 41, 42, 43, 44, 45, 46, 47, 48] (by decide +kernel) (by decide +kernel)
set_option maxRecDepth 20000 in
theorem gX8_writeCodes_X8_writeInteger : GoodIn wsX8_writeCodes (wsV RX8 89 RX8 yX8_writeInteger wsX8_writeInteger) := goodIn_app (goodIn_of _ (by decide +kernel)) ggX8_writeCodes_X8_writeInteger
theorem dX8_writeCodes_0 : decode cX8_writeCodes 0 = .ok (.iconst 0, 1) := by decide +kernel
theorem dX8_writeCodes_1 : decode cX8_writeCodes 1 = .ok (.istore_n 1, 1) := by decide +kernel
theorem dX8_writeCodes_2 : decode cX8_writeCodes 2 = .ok (.iload_n 1, 1) := by decide +kernel
theorem dX8_writeCodes_3 : decode cX8_writeCodes 3 = .ok (.aload_n 0, 1) := by decide +kernel
theorem dX8_writeCodes_4 : decode cX8_writeCodes 4 = .ok (.getfield 79, 3) := by decide +kernel
theorem dX8_writeCodes_7 : decode cX8_writeCodes 7 = .ok (.if_icmp .ge 166, 3) := by decide +kernel
theorem dX8_writeCodes_10 : decode cX8_writeCodes 10 = .ok (.iload_n 1, 1) := by decide +kernel
theorem dX8_writeCodes_11 : decode cX8_writeCodes 11 = .ok (.iconst 1, 1) := by decide +kernel
theorem dX8_writeCodes_12 : decode cX8_writeCodes 12 = .ok (.iadd, 1) := by decide +kernel
theorem dX8_writeCodes_13 : decode cX8_writeCodes 13 = .ok (.aload_n 0, 1) := by decide +kernel
theorem dX8_writeCodes_14 : decode cX8_writeCodes 14 = .ok (.getfield 79, 3) := by decide +kernel
theorem dX8_writeCodes_17 : decode cX8_writeCodes 17 = .ok (.if_icmp .ge 51, 3) := by decide +kernel
theorem dX8_writeCodes_20 : decode cX8_writeCodes 20 = .ok (.aload_n 0, 1) := by decide +kernel
theorem dX8_writeCodes_21 : decode cX8_writeCodes 21 = .ok (.getfield 25, 3) := by decide +kernel
theorem dX8_writeCodes_24 : decode cX8_writeCodes 24 = .ok (.iload_n 1, 1) := by decide +kernel
theorem dX8_writeCodes_25 : decode cX8_writeCodes 25 = .ok (.iaload, 1) := by decide +kernel
theorem dX8_writeCodes_26 : decode cX8_writeCodes 26 = .ok (.aload_n 0, 1) := by decide +kernel
theorem dX8_writeCodes_27 : decode cX8_writeCodes 27 = .ok (.getfield 28, 3) := by decide +kernel
theorem dX8_writeCodes_30 : decode cX8_writeCodes 30 = .ok (.iload_n 1, 1) := by decide +kernel
theorem dX8_writeCodes_31 : decode cX8_writeCodes 31 = .ok (.iaload, 1) := by decide +kernel
theorem dX8_writeCodes_32 : decode cX8_writeCodes 32 = .ok (.aload_n 0, 1) := by decide +kernel
theorem dX8_writeCodes_33 : decode cX8_writeCodes 33 = .ok (.getfield 31, 3) := by decide +kernel
theorem dX8_writeCodes_36 : decode cX8_writeCodes 36 = .ok (.iload_n 1, 1) := by decide +kernel
theorem dX8_writeCodes_37 : decode cX8_writeCodes 37 = .ok (.iaload, 1) := by decide +kernel
theorem dX8_writeCodes_38 : decode cX8_writeCodes 38 = .ok (.aload_n 0, 1) := by decide +kernel
theorem dX8_writeCodes_39 : decode cX8_writeCodes 39 = .ok (.getfield 25, 3) := by decide +kernel
theorem dX8_writeCodes_42 : decode cX8_writeCodes 42 = .ok (.iload_n 1, 1) := by decide +kernel
theorem dX8_writeCodes_43 : decode cX8_writeCodes 43 = .ok (.iconst 1, 1) := by decide +kernel
theorem dX8_writeCodes_44 : decode cX8_writeCodes 44 = .ok (.iadd, 1) := by decide +kernel
theorem dX8_writeCodes_45 : decode cX8_writeCodes 45 = .ok (.iaload, 1) := by decide +kernel
theorem dX8_writeCodes_46 : decode cX8_writeCodes 46 = .ok (.aload_n 0, 1) := by decide +kernel
theorem dX8_writeCodes_47 : decode cX8_writeCodes 47 = .ok (.getfield 28, 3) := by decide +kernel
theorem dX8_writeCodes_50 : decode cX8_writeCodes 50 = .ok (.iload_n 1, 1) := by decide +kernel
theorem dX8_writeCodes_51 : decode cX8_writeCodes 51 = .ok (.iconst 1, 1) := by decide +kernel
theorem dX8_writeCodes_52 : decode cX8_writeCodes 52 = .ok (.iadd, 1) := by decide +kernel
theorem dX8_writeCodes_53 : decode cX8_writeCodes 53 = .ok (.iaload, 1) := by decide +kernel
theorem dX8_writeCodes_54 : decode cX8_writeCodes 54 = .ok (.aload_n 0, 1) := by decide +kernel
theorem dX8_writeCodes_55 : decode cX8_writeCodes 55 = .ok (.getfield 31, 3) := by decide +kernel
theorem dX8_writeCodes_58 : decode cX8_writeCodes 58 = .ok (.iload_n 1, 1) := by decide +kernel
theorem dX8_writeCodes_59 : decode cX8_writeCodes 59 = .ok (.iconst 1, 1) := by decide +kernel
theorem dX8_writeCodes_60 : decode cX8_writeCodes 60 = .ok (.iadd, 1) := by decide +kernel
theorem dX8_writeCodes_61 : decode cX8_writeCodes 61 = .ok (.iaload, 1) := by decide +kernel
theorem dX8_writeCodes_62 : decode cX8_writeCodes 62 = .ok (.invokestatic 109, 3) := by decide +kernel
theorem dX8_writeCodes_65 : decode cX8_writeCodes 65 = .ok (.goto 4, 3) := by decide +kernel
theorem dX8_writeCodes_68 : decode cX8_writeCodes 68 = .ok (.iconst (-1), 1) := by decide +kernel
theorem dX8_writeCodes_69 : decode cX8_writeCodes 69 = .ok (.istore_n 2, 1) := by decide +kernel
theorem dX8_writeCodes_70 : decode cX8_writeCodes 70 = .ok (.aload_n 0, 1) := by decide +kernel
theorem dX8_writeCodes_71 : decode cX8_writeCodes 71 = .ok (.getfield 25, 3) := by decide +kernel
theorem dX8_writeCodes_74 : decode cX8_writeCodes 74 = .ok (.iload_n 1, 1) := by decide +kernel
theorem dX8_writeCodes_75 : decode cX8_writeCodes 75 = .ok (.iaload, 1) := by decide +kernel
theorem dX8_writeCodes_76 : decode cX8_writeCodes 76 = .ok (.aload_n 0, 1) := by decide +kernel
theorem dX8_writeCodes_77 : decode cX8_writeCodes 77 = .ok (.getfield 28, 3) := by decide +kernel
theorem dX8_writeCodes_80 : decode cX8_writeCodes 80 = .ok (.iload_n 1, 1) := by decide +kernel
theorem dX8_writeCodes_81 : decode cX8_writeCodes 81 = .ok (.iaload, 1) := by decide +kernel
theorem dX8_writeCodes_82 : decode cX8_writeCodes 82 = .ok (.aload_n 0, 1) := by decide +kernel
theorem dX8_writeCodes_83 : decode cX8_writeCodes 83 = .ok (.getfield 31, 3) := by decide +kernel
theorem dX8_writeCodes_86 : decode cX8_writeCodes 86 = .ok (.iload_n 1, 1) := by decide +kernel
theorem dX8_writeCodes_87 : decode cX8_writeCodes 87 = .ok (.iaload, 1) := by decide +kernel
theorem dX8_writeCodes_88 : decode cX8_writeCodes 88 = .ok (.iconst 0, 1) := by decide +kernel
theorem dX8_writeCodes_89 : decode cX8_writeCodes 89 = .ok (.iconst 0, 1) := by decide +kernel
theorem dX8_writeCodes_90 : decode cX8_writeCodes 90 = .ok (.iconst 0, 1) := by decide +kernel
theorem dX8_writeCodes_91 : decode cX8_writeCodes 91 = .ok (.invokestatic 109, 3) := by decide +kernel
theorem dX8_writeCodes_94 : decode cX8_writeCodes 94 = .ok (.istore_n 3, 1) := by decide +kernel
theorem dX8_writeCodes_95 : decode cX8_writeCodes 95 = .ok (.iload_n 2, 1) := by decide +kernel
theorem dX8_writeCodes_96 : decode cX8_writeCodes 96 = .ok (.ifCond .lt 12, 3) := by decide +kernel
theorem dX8_writeCodes_99 : decode cX8_writeCodes 99 = .ok (.aload_n 0, 1) := by decide +kernel
theorem dX8_writeCodes_100 : decode cX8_writeCodes 100 = .ok (.iconst 1, 1) := by decide +kernel
theorem dX8_writeCodes_101 : decode cX8_writeCodes 101 = .ok (.iload_n 2, 1) := by decide +kernel
theorem dX8_writeCodes_102 : decode cX8_writeCodes 102 = .ok (.invokevirtual 73, 3) := by decide +kernel
theorem dX8_writeCodes_105 : decode cX8_writeCodes 105 = .ok (.goto 51, 3) := by decide +kernel
theorem dX8_writeCodes_108 : decode cX8_writeCodes 108 = .ok (.iload_n 3, 1) := by decide +kernel
theorem dX8_writeCodes_109 : decode cX8_writeCodes 109 = .ok (.ifCond .lt 12, 3) := by decide +kernel
theorem dX8_writeCodes_112 : decode cX8_writeCodes 112 = .ok (.aload_n 0, 1) := by decide +kernel
theorem dX8_writeCodes_113 : decode cX8_writeCodes 113 = .ok (.iconst 1, 1) := by decide +kernel
theorem dX8_writeCodes_114 : decode cX8_writeCodes 114 = .ok (.iload_n 3, 1) := by decide +kernel
theorem dX8_writeCodes_115 : decode cX8_writeCodes 115 = .ok (.invokevirtual 73, 3) := by decide +kernel
theorem dX8_writeCodes_118 : decode cX8_writeCodes 118 = .ok (.goto 38, 3) := by decide +kernel
theorem dX8_writeCodes_121 : decode cX8_writeCodes 121 = .ok (.aload_n 0, 1) := by decide +kernel
theorem dX8_writeCodes_122 : decode cX8_writeCodes 122 = .ok (.iconst 1, 1) := by decide +kernel
theorem dX8_writeCodes_123 : decode cX8_writeCodes 123 = .ok (.aload_n 0, 1) := by decide +kernel
theorem dX8_writeCodes_124 : decode cX8_writeCodes 124 = .ok (.getfield 25, 3) := by decide +kernel
theorem dX8_writeCodes_127 : decode cX8_writeCodes 127 = .ok (.iload_n 1, 1) := by decide +kernel
theorem dX8_writeCodes_128 : decode cX8_writeCodes 128 = .ok (.iaload, 1) := by decide +kernel
theorem dX8_writeCodes_129 : decode cX8_writeCodes 129 = .ok (.iconst 0, 1) := by decide +kernel
theorem dX8_writeCodes_130 : decode cX8_writeCodes 130 = .ok (.aload_n 0, 1) := by decide +kernel
theorem dX8_writeCodes_131 : decode cX8_writeCodes 131 = .ok (.getfield 31, 3) := by decide +kernel
theorem dX8_writeCodes_134 : decode cX8_writeCodes 134 = .ok (.iload_n 1, 1) := by decide +kernel
theorem dX8_writeCodes_135 : decode cX8_writeCodes 135 = .ok (.iaload, 1) := by decide +kernel
theorem dX8_writeCodes_136 : decode cX8_writeCodes 136 = .ok (.iconst 0, 1) := by decide +kernel
theorem dX8_writeCodes_137 : decode cX8_writeCodes 137 = .ok (.iconst 0, 1) := by decide +kernel
theorem dX8_writeCodes_138 : decode cX8_writeCodes 138 = .ok (.iconst 0, 1) := by decide +kernel
theorem dX8_writeCodes_139 : decode cX8_writeCodes 139 = .ok (.invokestatic 109, 3) := by decide +kernel
theorem dX8_writeCodes_142 : decode cX8_writeCodes 142 = .ok (.invokevirtual 73, 3) := by decide +kernel
theorem dX8_writeCodes_145 : decode cX8_writeCodes 145 = .ok (.aload_n 0, 1) := by decide +kernel
theorem dX8_writeCodes_146 : decode cX8_writeCodes 146 = .ok (.iconst 1, 1) := by decide +kernel
theorem dX8_writeCodes_147 : decode cX8_writeCodes 147 = .ok (.aload_n 0, 1) := by decide +kernel
theorem dX8_writeCodes_148 : decode cX8_writeCodes 148 = .ok (.getfield 28, 3) := by decide +kernel
theorem dX8_writeCodes_151 : decode cX8_writeCodes 151 = .ok (.iload_n 1, 1) := by decide +kernel
theorem dX8_writeCodes_152 : decode cX8_writeCodes 152 = .ok (.iaload, 1) := by decide +kernel
theorem dX8_writeCodes_153 : decode cX8_writeCodes 153 = .ok (.invokevirtual 89, 3) := by decide +kernel
theorem dX8_writeCodes_156 : decode cX8_writeCodes 156 = .ok (.iload_n 2, 1) := by decide +kernel
theorem dX8_writeCodes_157 : decode cX8_writeCodes 157 = .ok (.ifCond .lt 9, 3) := by decide +kernel
theorem dX8_writeCodes_160 : decode cX8_writeCodes 160 = .ok (.iload_n 1, 1) := by decide +kernel
theorem dX8_writeCodes_161 : decode cX8_writeCodes 161 = .ok (.iconst 2, 1) := by decide +kernel
theorem dX8_writeCodes_162 : decode cX8_writeCodes 162 = .ok (.iadd, 1) := by decide +kernel
theorem dX8_writeCodes_163 : decode cX8_writeCodes 163 = .ok (.goto 6, 3) := by decide +kernel
theorem dX8_writeCodes_166 : decode cX8_writeCodes 166 = .ok (.iload_n 1, 1) := by decide +kernel
theorem dX8_writeCodes_167 : decode cX8_writeCodes 167 = .ok (.iconst 1, 1) := by decide +kernel
theorem dX8_writeCodes_168 : decode cX8_writeCodes 168 = .ok (.iadd, 1) := by decide +kernel
theorem dX8_writeCodes_169 : decode cX8_writeCodes 169 = .ok (.istore_n 1, 1) := by decide +kernel
theorem dX8_writeCodes_170 : decode cX8_writeCodes 170 = .ok (.goto (-168), 3) := by decide +kernel
theorem dX8_writeCodes_173 : decode cX8_writeCodes 173 = .ok (.return_, 1) := by decide +kernel
set_option maxRecDepth 20000 in
theorem ggX8_window_X8_forget : GoodIn wsX8_window wsX8_forget := goodIn_r _ [9, 10, 11, 12, 85, 86, 87, 88, 89, 90, 91, 92, 93, 94, 95, 96, 97, 98, 99, 100, 101, 102, 103, 104, 105] (by decide +kernel) (by decide +kernel)
set_option maxRecDepth 20000 in
theorem gX8_window_X8_forget : GoodIn wsX8_window (wsV RX8 113 RX8 yX8_forget wsX8_forget) := goodIn_app (goodIn_of _ (by decide +kernel)) ggX8_window_X8_forget
set_option maxRecDepth 20000 in
theorem ggX8_window_X8_findInstructions : GoodIn wsX8_window wsX8_findInstructions := goodIn_r _ [16, 3, 17, 18, 19, 20, 8, 21, 22, 23, 24, 25, 26, 27, 28, 29, 30, 31, 32, 33, 34, 1, 35, 36, 37, 38, 39, 40, 4, 2, 41, 42, 43, 44, 11, 45, 46, 47, 48, 10, 49, 50, 51, 52, 53, 54, 55, 56, 57, 58, 59, 60, 61, 62, 12, 63, 64, 65, 66, 85, 86, 87, 88, 89, 90, 91, 92, 93, 94, 95, 96, 97, 98, 99, 100, 101, 102, 103, 104, 105] (by decide +kernel) (by decide +kernel)
set_option maxRecDepth 20000 in
theorem gX8_window_X8_findInstructions : GoodIn wsX8_window (wsV RX8 116 RX8 yX8_findInstructions wsX8_findInstructions) := goodIn_app (goodIn_of _ (by decide +kernel)) ggX8_window_X8_findInstructions
set_option maxRecDepth 20000 in
theorem ggX8_window_X8_writeCodes : GoodIn wsX8_window wsX8_writeCodes := goodIn_r _ [70, 1, 34, 35, 36, 71, 72, 8, 73, 74, 75, 76, 37, 38, 39, 40, 4, 2, 49, 50, 51, 52, 53, 54, 55, 56, 57, 58, 85, 86, 87, 88, 89, 90, 91, 92, 93, 94, 95, 96, 97, 98, 99, 100, 101, 102, 103, 104, 105] (by decide +kernel) (by decide +kernel)
set_option maxRecDepth 20000 in
theorem gX8_window_X8_writeCodes : GoodIn wsX8_window (wsV RX8 119 RX8 yX8_writeCodes wsX8_writeCodes) := goodIn_app (goodIn_of _ (by decide +kernel)) ggX8_window_X8_writeCodes
set_option maxRecDepth 20000 in
theorem ggX8_window_X8_append : GoodIn wsX8_window wsX8_append := goodIn_r _ [80, 17, 3, 85, 86, 87, 88, 89, 90, 91, 92, 93, 94, 95, 96, 97, 98, 99, 100, 101, 102, 103, 104, 105] (by decide +kernel) (by decide +kernel)
set_option maxRecDepth 20000 in
theorem gX8_window_X8_append : GoodIn wsX8_window (wsV RX8 54 RX8 yX8_append wsX8_append) := goodIn_app (goodIn_of _ (by decide +kernel)) ggX8_window_X8_append
set_option maxRecDepth 20000 in
theorem ggX8_window_X8_appendInteger : GoodIn wsX8_window wsX8_appendInteger := goodIn_r _ [84, 53, 54, 8, 55, 56, 57, 58, 77, 78, 79, 80, 17, 3, 85, 86, 87, 88, 89, 90, 91, 92, 93, 94, 95, 96, 97, 98, 99, 100, 101, 102, 103, 104, 105] (by decide +kernel) (by decide +kernel)
set_option maxRecDepth 20000 in
theorem gX8_window_X8_appendInteger : GoodIn wsX8_window (wsV RX8 122 RX8 yX8_appendInteger wsX8_appendInteger) := goodIn_app (goodIn_of _ (by decide +kernel)) ggX8_window_X8_appendInteger
set_option maxRecDepth 20000 in
theorem ggX8_window_X8_bytesOf : GoodIn wsX8_window wsX8_bytesOf := goodIn_r _ [55] (by decide +kernel) (by decide +kernel)
set_option maxRecDepth 20000 in
theorem gX8_window_X8_bytesOf : GoodIn wsX8_window (va_wsS RX8 66 yX8_bytesOf wsX8_bytesOf) := goodIn_app (goodIn_of _ (by decide +kernel)) ggX8_window_X8_bytesOf
theorem dX8_window_0 : decode cX8_window 0 = .ok (.aload_n 0, 1) := by decide +kernel
theorem dX8_window_1 : decode cX8_window 1 = .ok (.invokevirtual 113, 3) := by decide +kernel
theorem dX8_window_4 : decode cX8_window 4 = .ok (.aload_n 0, 1) := by decide +kernel
theorem dX8_window_5 : decode cX8_window 5 = .ok (.iconst 0, 1) := by decide +kernel
theorem dX8_window_6 : decode cX8_window 6 = .ok (.putfield 79, 3) := by decide +kernel
theorem dX8_window_9 : decode cX8_window 9 = .ok (.iconst 0, 1) := by decide +kernel
theorem dX8_window_10 : decode cX8_window 10 = .ok (.istore_n 3, 1) := by decide +kernel
theorem dX8_window_11 : decode cX8_window 11 = .ok (.iconst 0, 1) := by decide +kernel
theorem dX8_window_12 : decode cX8_window 12 = .ok (.istore 4, 2) := by decide +kernel
theorem dX8_window_14 : decode cX8_window 14 = .ok (.iload 4, 2) := by decide +kernel
theorem dX8_window_16 : decode cX8_window 16 = .ok (.iconst 3, 1) := by decide +kernel
theorem dX8_window_17 : decode cX8_window 17 = .ok (.if_icmp .ge 17, 3) := by decide +kernel
theorem dX8_window_20 : decode cX8_window 20 = .ok (.aload_n 0, 1) := by decide +kernel
theorem dX8_window_21 : decode cX8_window 21 = .ok (.getfield 37, 3) := by decide +kernel
theorem dX8_window_24 : decode cX8_window 24 = .ok (.iload 4, 2) := by decide +kernel
theorem dX8_window_26 : decode cX8_window 26 = .ok (.iconst 0, 1) := by decide +kernel
theorem dX8_window_27 : decode cX8_window 27 = .ok (.iastore, 1) := by decide +kernel
theorem dX8_window_28 : decode cX8_window 28 = .ok (.iinc 4 1, 3) := by decide +kernel
theorem dX8_window_31 : decode cX8_window 31 = .ok (.goto (-17), 3) := by decide +kernel
theorem dX8_window_34 : decode cX8_window 34 = .ok (.aload_n 0, 1) := by decide +kernel
theorem dX8_window_35 : decode cX8_window 35 = .ok (.iload_n 1, 1) := by decide +kernel
theorem dX8_window_36 : decode cX8_window 36 = .ok (.iload_n 2, 1) := by decide +kernel
theorem dX8_window_37 : decode cX8_window 37 = .ok (.invokevirtual 116, 3) := by decide +kernel
theorem dX8_window_40 : decode cX8_window 40 = .ok (.aload_n 0, 1) := by decide +kernel
theorem dX8_window_41 : decode cX8_window 41 = .ok (.invokevirtual 119, 3) := by decide +kernel
theorem dX8_window_44 : decode cX8_window 44 = .ok (.aload_n 0, 1) := by decide +kernel
theorem dX8_window_45 : decode cX8_window 45 = .ok (.iconst 2, 1) := by decide +kernel
theorem dX8_window_46 : decode cX8_window 46 = .ok (.aload_n 0, 1) := by decide +kernel
theorem dX8_window_47 : decode cX8_window 47 = .ok (.getfield 13, 3) := by decide +kernel
theorem dX8_window_50 : decode cX8_window 50 = .ok (.iconst 0, 1) := by decide +kernel
theorem dX8_window_51 : decode cX8_window 51 = .ok (.iaload, 1) := by decide +kernel
theorem dX8_window_52 : decode cX8_window 52 = .ok (.ifCond .le 7, 3) := by decide +kernel
theorem dX8_window_55 : decode cX8_window 55 = .ok (.iconst 1, 1) := by decide +kernel
theorem dX8_window_56 : decode cX8_window 56 = .ok (.goto 4, 3) := by decide +kernel
theorem dX8_window_59 : decode cX8_window 59 = .ok (.iconst 0, 1) := by decide +kernel
theorem dX8_window_60 : decode cX8_window 60 = .ok (.invokevirtual 54, 3) := by decide +kernel
theorem dX8_window_63 : decode cX8_window 63 = .ok (.aload_n 0, 1) := by decide +kernel
theorem dX8_window_64 : decode cX8_window 64 = .ok (.getfield 13, 3) := by decide +kernel
theorem dX8_window_67 : decode cX8_window 67 = .ok (.iconst 0, 1) := by decide +kernel
theorem dX8_window_68 : decode cX8_window 68 = .ok (.iaload, 1) := by decide +kernel
theorem dX8_window_69 : decode cX8_window 69 = .ok (.ifCond .le 18, 3) := by decide +kernel
theorem dX8_window_72 : decode cX8_window 72 = .ok (.aload_n 0, 1) := by decide +kernel
theorem dX8_window_73 : decode cX8_window 73 = .ok (.aload_n 0, 1) := by decide +kernel
theorem dX8_window_74 : decode cX8_window 74 = .ok (.getfield 13, 3) := by decide +kernel
theorem dX8_window_77 : decode cX8_window 77 = .ok (.iconst 0, 1) := by decide +kernel
theorem dX8_window_78 : decode cX8_window 78 = .ok (.iaload, 1) := by decide +kernel
theorem dX8_window_79 : decode cX8_window 79 = .ok (.invokevirtual 122, 3) := by decide +kernel
theorem dX8_window_82 : decode cX8_window 82 = .ok (.aload_n 0, 1) := by decide +kernel
theorem dX8_window_83 : decode cX8_window 83 = .ok (.iconst 0, 1) := by decide +kernel
theorem dX8_window_84 : decode cX8_window 84 = .ok (.invokevirtual 122, 3) := by decide +kernel
theorem dX8_window_87 : decode cX8_window 87 = .ok (.iconst 0, 1) := by decide +kernel
theorem dX8_window_88 : decode cX8_window 88 = .ok (.istore 4, 2) := by decide +kernel
theorem dX8_window_90 : decode cX8_window 90 = .ok (.iload 4, 2) := by decide +kernel
theorem dX8_window_92 : decode cX8_window 92 = .ok (.iconst 3, 1) := by decide +kernel
theorem dX8_window_93 : decode cX8_window 93 = .ok (.if_icmp .ge 30, 3) := by decide +kernel
theorem dX8_window_96 : decode cX8_window 96 = .ok (.iload_n 3, 1) := by decide +kernel
theorem dX8_window_97 : decode cX8_window 97 = .ok (.aload_n 0, 1) := by decide +kernel
theorem dX8_window_98 : decode cX8_window 98 = .ok (.getfield 37, 3) := by decide +kernel
theorem dX8_window_101 : decode cX8_window 101 = .ok (.iload 4, 2) := by decide +kernel
theorem dX8_window_103 : decode cX8_window 103 = .ok (.iaload, 1) := by decide +kernel
theorem dX8_window_104 : decode cX8_window 104 = .ok (.iadd, 1) := by decide +kernel
theorem dX8_window_105 : decode cX8_window 105 = .ok (.aload_n 0, 1) := by decide +kernel
theorem dX8_window_106 : decode cX8_window 106 = .ok (.getfield 37, 3) := by decide +kernel
theorem dX8_window_109 : decode cX8_window 109 = .ok (.iload 4, 2) := by decide +kernel
theorem dX8_window_111 : decode cX8_window 111 = .ok (.iaload, 1) := by decide +kernel
theorem dX8_window_112 : decode cX8_window 112 = .ok (.invokestatic 66, 3) := by decide +kernel
theorem dX8_window_115 : decode cX8_window 115 = .ok (.iadd, 1) := by decide +kernel
theorem dX8_window_116 : decode cX8_window 116 = .ok (.istore_n 3, 1) := by decide +kernel
theorem dX8_window_117 : decode cX8_window 117 = .ok (.iinc 4 1, 3) := by decide +kernel
theorem dX8_window_120 : decode cX8_window 120 = .ok (.goto (-30), 3) := by decide +kernel
theorem dX8_window_123 : decode cX8_window 123 = .ok (.aload_n 0, 1) := by decide +kernel
theorem dX8_window_124 : decode cX8_window 124 = .ok (.iload_n 3, 1) := by decide +kernel
theorem dX8_window_125 : decode cX8_window 125 = .ok (.iload_n 2, 1) := by decide +kernel
theorem dX8_window_126 : decode cX8_window 126 = .ok (.iload_n 1, 1) := by decide +kernel
theorem dX8_window_127 : decode cX8_window 127 = .ok (.isub, 1) := by decide +kernel
theorem dX8_window_128 : decode cX8_window 128 = .ok (.invokestatic 66, 3) := by decide +kernel
theorem dX8_window_131 : decode cX8_window 131 = .ok (.iadd, 1) := by decide +kernel
theorem dX8_window_132 : decode cX8_window 132 = .ok (.iconst 1, 1) := by decide +kernel
theorem dX8_window_133 : decode cX8_window 133 = .ok (.iadd, 1) := by decide +kernel
theorem dX8_window_134 : decode cX8_window 134 = .ok (.invokevirtual 122, 3) := by decide +kernel
theorem dX8_window_137 : decode cX8_window 137 = .ok (.aload_n 0, 1) := by decide +kernel
theorem dX8_window_138 : decode cX8_window 138 = .ok (.iload_n 2, 1) := by decide +kernel
theorem dX8_window_139 : decode cX8_window 139 = .ok (.iload_n 1, 1) := by decide +kernel
theorem dX8_window_140 : decode cX8_window 140 = .ok (.isub, 1) := by decide +kernel
theorem dX8_window_141 : decode cX8_window 141 = .ok (.invokevirtual 122, 3) := by decide +kernel
theorem dX8_window_144 : decode cX8_window 144 = .ok (.aload_n 0, 1) := by decide +kernel
theorem dX8_window_145 : decode cX8_window 145 = .ok (.iconst 2, 1) := by decide +kernel
theorem dX8_window_146 : decode cX8_window 146 = .ok (.iconst 0, 1) := by decide +kernel
theorem dX8_window_147 : decode cX8_window 147 = .ok (.invokevirtual 54, 3) := by decide +kernel
theorem dX8_window_150 : decode cX8_window 150 = .ok (.iconst 0, 1) := by decide +kernel
theorem dX8_window_151 : decode cX8_window 151 = .ok (.istore 4, 2) := by decide +kernel
theorem dX8_window_153 : decode cX8_window 153 = .ok (.iload 4, 2) := by decide +kernel
theorem dX8_window_155 : decode cX8_window 155 = .ok (.iconst 3, 1) := by decide +kernel
theorem dX8_window_156 : decode cX8_window 156 = .ok (.if_icmp .ge 20, 3) := by decide +kernel
theorem dX8_window_159 : decode cX8_window 159 = .ok (.aload_n 0, 1) := by decide +kernel
theorem dX8_window_160 : decode cX8_window 160 = .ok (.aload_n 0, 1) := by decide +kernel
theorem dX8_window_161 : decode cX8_window 161 = .ok (.getfield 37, 3) := by decide +kernel
theorem dX8_window_164 : decode cX8_window 164 = .ok (.iload 4, 2) := by decide +kernel
theorem dX8_window_166 : decode cX8_window 166 = .ok (.iaload, 1) := by decide +kernel
theorem dX8_window_167 : decode cX8_window 167 = .ok (.invokevirtual 122, 3) := by decide +kernel
theorem dX8_window_170 : decode cX8_window 170 = .ok (.iinc 4 1, 3) := by decide +kernel
theorem dX8_window_173 : decode cX8_window 173 = .ok (.goto (-20), 3) := by decide +kernel
theorem dX8_window_176 : decode cX8_window 176 = .ok (.iconst 0, 1) := by decide +kernel
theorem dX8_window_177 : decode cX8_window 177 = .ok (.istore 4, 2) := by decide +kernel
theorem dX8_window_179 : decode cX8_window 179 = .ok (.iload 4, 2) := by decide +kernel
theorem dX8_window_181 : decode cX8_window 181 = .ok (.iconst 3, 1) := by decide +kernel
theorem dX8_window_182 : decode cX8_window 182 = .ok (.if_icmp .ge 49, 3) := by decide +kernel
theorem dX8_window_185 : decode cX8_window 185 = .ok (.iconst 0, 1) := by decide +kernel
theorem dX8_window_186 : decode cX8_window 186 = .ok (.istore 5, 2) := by decide +kernel
theorem dX8_window_188 : decode cX8_window 188 = .ok (.iload 5, 2) := by decide +kernel
theorem dX8_window_190 : decode cX8_window 190 = .ok (.aload_n 0, 1) := by decide +kernel
theorem dX8_window_191 : decode cX8_window 191 = .ok (.getfield 37, 3) := by decide +kernel
theorem dX8_window_194 : decode cX8_window 194 = .ok (.iload 4, 2) := by decide +kernel
theorem dX8_window_196 : decode cX8_window 196 = .ok (.iaload, 1) := by decide +kernel
theorem dX8_window_197 : decode cX8_window 197 = .ok (.if_icmp .ge 28, 3) := by decide +kernel
theorem dX8_window_200 : decode cX8_window 200 = .ok (.aload_n 0, 1) := by decide +kernel
theorem dX8_window_201 : decode cX8_window 201 = .ok (.iconst 2, 1) := by decide +kernel
theorem dX8_window_202 : decode cX8_window 202 = .ok (.aload_n 0, 1) := by decide +kernel
theorem dX8_window_203 : decode cX8_window 203 = .ok (.getfield 34, 3) := by decide +kernel
theorem dX8_window_206 : decode cX8_window 206 = .ok (.sipush 400, 3) := by decide +kernel
theorem dX8_window_209 : decode cX8_window 209 = .ok (.iload 4, 2) := by decide +kernel
theorem dX8_window_211 : decode cX8_window 211 = .ok (.imul, 1) := by decide +kernel
theorem dX8_window_212 : decode cX8_window 212 = .ok (.iload 5, 2) := by decide +kernel
theorem dX8_window_214 : decode cX8_window 214 = .ok (.iadd, 1) := by decide +kernel
theorem dX8_window_215 : decode cX8_window 215 = .ok (.iaload, 1) := by decide +kernel
theorem dX8_window_216 : decode cX8_window 216 = .ok (.invokevirtual 54, 3) := by decide +kernel
theorem dX8_window_219 : decode cX8_window 219 = .ok (.iinc 5 1, 3) := by decide +kernel
theorem dX8_window_222 : decode cX8_window 222 = .ok (.goto (-34), 3) := by decide +kernel
theorem dX8_window_225 : decode cX8_window 225 = .ok (.iinc 4 1, 3) := by decide +kernel
theorem dX8_window_228 : decode cX8_window 228 = .ok (.goto (-49), 3) := by decide +kernel
theorem dX8_window_231 : decode cX8_window 231 = .ok (.return_, 1) := by decide +kernel
theorem dX8_head_0 : decode cX8_head 0 = .ok (.iload_n 0, 1) := by decide +kernel
theorem dX8_head_1 : decode cX8_head 1 = .ok (.ifCond .ne 9, 3) := by decide +kernel
theorem dX8_head_4 : decode cX8_head 4 = .ok (.sipush 214, 3) := by decide +kernel
theorem dX8_head_7 : decode cX8_head 7 = .ok (.goto 26, 3) := by decide +kernel
theorem dX8_head_10 : decode cX8_head 10 = .ok (.iload_n 0, 1) := by decide +kernel
theorem dX8_head_11 : decode cX8_head 11 = .ok (.iconst 1, 1) := by decide +kernel
theorem dX8_head_12 : decode cX8_head 12 = .ok (.if_icmp .ne 9, 3) := by decide +kernel
theorem dX8_head_15 : decode cX8_head 15 = .ok (.sipush 195, 3) := by decide +kernel
theorem dX8_head_18 : decode cX8_head 18 = .ok (.goto 15, 3) := by decide +kernel
theorem dX8_head_21 : decode cX8_head 21 = .ok (.iload_n 0, 1) := by decide +kernel
theorem dX8_head_22 : decode cX8_head 22 = .ok (.iconst 2, 1) := by decide +kernel
theorem dX8_head_23 : decode cX8_head 23 = .ok (.if_icmp .ne 9, 3) := by decide +kernel
theorem dX8_head_26 : decode cX8_head 26 = .ok (.sipush 196, 3) := by decide +kernel
theorem dX8_head_29 : decode cX8_head 29 = .ok (.goto 4, 3) := by decide +kernel
theorem dX8_head_32 : decode cX8_head 32 = .ok (.iconst 0, 1) := by decide +kernel
theorem dX8_head_33 : decode cX8_head 33 = .ok (.ireturn, 1) := by decide +kernel
set_option maxRecDepth 20000 in
theorem ggX8_encode_X8_forget : GoodIn wsX8_encode wsX8_forget := goodIn_r _ [6, 7, 8, 9, 97, 98, 99, 100, 101, 102, 103, 104, 105, 106, 107, 108, 109, 110, 111, 112, 113, 114, 115, 116, 117] (by decide +kernel) (by decide +kernel)
set_option maxRecDepth 20000 in
theorem gX8_encode_X8_forget : GoodIn wsX8_encode (wsV RX8 113 RX8 yX8_forget wsX8_forget) := goodIn_app (goodIn_of _ (by decide +kernel)) ggX8_encode_X8_forget
set_option maxRecDepth 20000 in
theorem ggX8_encode_X8_head : GoodIn wsX8_encode wsX8_head := goodIn_r _ [12] (by decide +kernel) (by decide +kernel)
set_option maxRecDepth 20000 in
theorem gX8_encode_X8_head : GoodIn wsX8_encode (va_wsS RX8 125 yX8_head wsX8_head) := goodIn_app (goodIn_of _ (by decide +kernel)) ggX8_encode_X8_head
set_option maxRecDepth 20000 in
theorem ggX8_encode_X8_append : GoodIn wsX8_encode wsX8_append := goodIn_r _ [16, 17, 1, 97, 98, 99, 100, 101, 102, 103, 104, 105, 106, 107, 108, 109, 110, 111, 112, 113, 114, 115, 116, 117] (by decide +kernel) (by decide +kernel)
set_option maxRecDepth 20000 in
theorem gX8_encode_X8_append : GoodIn wsX8_encode (wsV RX8 54 RX8 yX8_append wsX8_append) := goodIn_app (goodIn_of _ (by decide +kernel)) ggX8_encode_X8_append
set_option maxRecDepth 20000 in
theorem ggX8_encode_X8_window : GoodIn wsX8_encode wsX8_window := goodIn_r _ [21, 22, 23, 1, 24, 2, 3, 4, 5, 6, 7, 8, 9, 25, 26, 27, 28, 17, 29, 30, 31, 32, 33, 34, 35, 36, 37, 38, 39, 40, 41, 42, 43, 44, 45, 46, 47, 48, 49, 50, 51, 52, 53, 54, 55, 56, 57, 58, 59, 60, 61, 62, 63, 64, 65, 66, 67, 68, 69, 70, 71, 72, 73, 74, 75, 76, 77, 78, 79, 80, 81, 82, 83, 84, 85, 86, 87, 13, 14, 15, 16, 88, 89, 90, 91, 97, 98, 99, 100, 101, 102, 103, 104, 105, 106, 107, 108, 109, 110, 111, 112, 113, 114, 115, 116, 117] (by decide +kernel) (by decide +kernel)
set_option maxRecDepth 20000 in
theorem gX8_encode_X8_window : GoodIn wsX8_encode (wsV RX8 128 RX8 yX8_window wsX8_window) := goodIn_app (goodIn_of _ (by decide +kernel)) ggX8_encode_X8_window
set_option maxRecDepth 20000 in
theorem ggX8_encode_X8_show : GoodIn wsX8_encode wsX8_show := goodIn_r _ [95, 96, 7, 8, 97, 98, 99, 100, 101, 102, 103, 104, 105, 106, 107, 108, 109, 110, 111, 112, 113, 114, 115, 116, 117] (by decide +kernel) (by decide +kernel)
set_option maxRecDepth 20000 in
theorem gX8_encode_X8_show : GoodIn wsX8_encode (wsV RX8 131 RX8 yX8_show wsX8_show) := goodIn_app (goodIn_of _ (by decide +kernel)) ggX8_encode_X8_show
theorem dX8_encode_0 : decode cX8_encode 0 = .ok (.iload_n 1, 1) := by decide +kernel
theorem dX8_encode_1 : decode cX8_encode 1 = .ok (.iconst 1, 1) := by decide +kernel
theorem dX8_encode_2 : decode cX8_encode 2 = .ok (.if_icmp .lt 9, 3) := by decide +kernel
theorem dX8_encode_5 : decode cX8_encode 5 = .ok (.iload_n 1, 1) := by decide +kernel
theorem dX8_encode_6 : decode cX8_encode 6 = .ok (.bipush 64, 2) := by decide +kernel
theorem dX8_encode_8 : decode cX8_encode 8 = .ok (.if_icmp .le 5, 3) := by decide +kernel
theorem dX8_encode_11 : decode cX8_encode 11 = .ok (.iconst (-1), 1) := by decide +kernel
theorem dX8_encode_12 : decode cX8_encode 12 = .ok (.ireturn, 1) := by decide +kernel
theorem dX8_encode_13 : decode cX8_encode 13 = .ok (.aload_n 0, 1) := by decide +kernel
theorem dX8_encode_14 : decode cX8_encode 14 = .ok (.invokevirtual 113, 3) := by decide +kernel
theorem dX8_encode_17 : decode cX8_encode 17 = .ok (.aload_n 0, 1) := by decide +kernel
theorem dX8_encode_18 : decode cX8_encode 18 = .ok (.getfield 13, 3) := by decide +kernel
theorem dX8_encode_21 : decode cX8_encode 21 = .ok (.iconst 2, 1) := by decide +kernel
theorem dX8_encode_22 : decode cX8_encode 22 = .ok (.iconst 0, 1) := by decide +kernel
theorem dX8_encode_23 : decode cX8_encode 23 = .ok (.iastore, 1) := by decide +kernel
theorem dX8_encode_24 : decode cX8_encode 24 = .ok (.iconst 0, 1) := by decide +kernel
theorem dX8_encode_25 : decode cX8_encode 25 = .ok (.istore_n 2, 1) := by decide +kernel
theorem dX8_encode_26 : decode cX8_encode 26 = .ok (.iload_n 2, 1) := by decide +kernel
theorem dX8_encode_27 : decode cX8_encode 27 = .ok (.iconst 5, 1) := by decide +kernel
theorem dX8_encode_28 : decode cX8_encode 28 = .ok (.if_icmp .ge 18, 3) := by decide +kernel
theorem dX8_encode_31 : decode cX8_encode 31 = .ok (.aload_n 0, 1) := by decide +kernel
theorem dX8_encode_32 : decode cX8_encode 32 = .ok (.iconst 2, 1) := by decide +kernel
theorem dX8_encode_33 : decode cX8_encode 33 = .ok (.iload_n 2, 1) := by decide +kernel
theorem dX8_encode_34 : decode cX8_encode 34 = .ok (.invokestatic 125, 3) := by decide +kernel
theorem dX8_encode_37 : decode cX8_encode 37 = .ok (.invokevirtual 54, 3) := by decide +kernel
theorem dX8_encode_40 : decode cX8_encode 40 = .ok (.iinc 2 1, 3) := by decide +kernel
theorem dX8_encode_43 : decode cX8_encode 43 = .ok (.goto (-17), 3) := by decide +kernel
theorem dX8_encode_46 : decode cX8_encode 46 = .ok (.iconst 0, 1) := by decide +kernel
theorem dX8_encode_47 : decode cX8_encode 47 = .ok (.istore_n 2, 1) := by decide +kernel
theorem dX8_encode_48 : decode cX8_encode 48 = .ok (.iload_n 2, 1) := by decide +kernel
theorem dX8_encode_49 : decode cX8_encode 49 = .ok (.aload_n 0, 1) := by decide +kernel
theorem dX8_encode_50 : decode cX8_encode 50 = .ok (.getfield 13, 3) := by decide +kernel
theorem dX8_encode_53 : decode cX8_encode 53 = .ok (.iconst 1, 1) := by decide +kernel
theorem dX8_encode_54 : decode cX8_encode 54 = .ok (.iaload, 1) := by decide +kernel
theorem dX8_encode_55 : decode cX8_encode 55 = .ok (.if_icmp .ge 39, 3) := by decide +kernel
theorem dX8_encode_58 : decode cX8_encode 58 = .ok (.aload_n 0, 1) := by decide +kernel
theorem dX8_encode_59 : decode cX8_encode 59 = .ok (.iload_n 2, 1) := by decide +kernel
theorem dX8_encode_60 : decode cX8_encode 60 = .ok (.iload_n 2, 1) := by decide +kernel
theorem dX8_encode_61 : decode cX8_encode 61 = .ok (.iload_n 1, 1) := by decide +kernel
theorem dX8_encode_62 : decode cX8_encode 62 = .ok (.iadd, 1) := by decide +kernel
theorem dX8_encode_63 : decode cX8_encode 63 = .ok (.aload_n 0, 1) := by decide +kernel
theorem dX8_encode_64 : decode cX8_encode 64 = .ok (.getfield 13, 3) := by decide +kernel
theorem dX8_encode_67 : decode cX8_encode 67 = .ok (.iconst 1, 1) := by decide +kernel
theorem dX8_encode_68 : decode cX8_encode 68 = .ok (.iaload, 1) := by decide +kernel
theorem dX8_encode_69 : decode cX8_encode 69 = .ok (.if_icmp .ge 9, 3) := by decide +kernel
theorem dX8_encode_72 : decode cX8_encode 72 = .ok (.iload_n 2, 1) := by decide +kernel
theorem dX8_encode_73 : decode cX8_encode 73 = .ok (.iload_n 1, 1) := by decide +kernel
theorem dX8_encode_74 : decode cX8_encode 74 = .ok (.iadd, 1) := by decide +kernel
theorem dX8_encode_75 : decode cX8_encode 75 = .ok (.goto 9, 3) := by decide +kernel
theorem dX8_encode_78 : decode cX8_encode 78 = .ok (.aload_n 0, 1) := by decide +kernel
theorem dX8_encode_79 : decode cX8_encode 79 = .ok (.getfield 13, 3) := by decide +kernel
theorem dX8_encode_82 : decode cX8_encode 82 = .ok (.iconst 1, 1) := by decide +kernel
theorem dX8_encode_83 : decode cX8_encode 83 = .ok (.iaload, 1) := by decide +kernel
theorem dX8_encode_84 : decode cX8_encode 84 = .ok (.invokevirtual 128, 3) := by decide +kernel
theorem dX8_encode_87 : decode cX8_encode 87 = .ok (.iload_n 2, 1) := by decide +kernel
theorem dX8_encode_88 : decode cX8_encode 88 = .ok (.iload_n 1, 1) := by decide +kernel
theorem dX8_encode_89 : decode cX8_encode 89 = .ok (.iadd, 1) := by decide +kernel
theorem dX8_encode_90 : decode cX8_encode 90 = .ok (.istore_n 2, 1) := by decide +kernel
theorem dX8_encode_91 : decode cX8_encode 91 = .ok (.goto (-43), 3) := by decide +kernel
theorem dX8_encode_94 : decode cX8_encode 94 = .ok (.aload_n 0, 1) := by decide +kernel
theorem dX8_encode_95 : decode cX8_encode 95 = .ok (.iconst 0, 1) := by decide +kernel
theorem dX8_encode_96 : decode cX8_encode 96 = .ok (.invokevirtual 131, 3) := by decide +kernel
theorem dX8_encode_99 : decode cX8_encode 99 = .ok (.aload_n 0, 1) := by decide +kernel
theorem dX8_encode_100 : decode cX8_encode 100 = .ok (.getfield 13, 3) := by decide +kernel
theorem dX8_encode_103 : decode cX8_encode 103 = .ok (.iconst 2, 1) := by decide +kernel
theorem dX8_encode_104 : decode cX8_encode 104 = .ok (.iaload, 1) := by decide +kernel
theorem dX8_encode_105 : decode cX8_encode 105 = .ok (.ireturn, 1) := by decide +kernel
theorem dX8_next_0 : decode cX8_next 0 = .ok (.aload_n 0, 1) := by decide +kernel
theorem dX8_next_1 : decode cX8_next 1 = .ok (.getfield 40, 3) := by decide +kernel
theorem dX8_next_4 : decode cX8_next 4 = .ok (.iload_n 1, 1) := by decide +kernel
theorem dX8_next_5 : decode cX8_next 5 = .ok (.iaload, 1) := by decide +kernel
theorem dX8_next_6 : decode cX8_next 6 = .ok (.aload_n 0, 1) := by decide +kernel
theorem dX8_next_7 : decode cX8_next 7 = .ok (.getfield 43, 3) := by decide +kernel
theorem dX8_next_10 : decode cX8_next 10 = .ok (.iload_n 1, 1) := by decide +kernel
theorem dX8_next_11 : decode cX8_next 11 = .ok (.iaload, 1) := by decide +kernel
theorem dX8_next_12 : decode cX8_next 12 = .ok (.if_icmp .lt 10, 3) := by decide +kernel
theorem dX8_next_15 : decode cX8_next 15 = .ok (.aload_n 0, 1) := by decide +kernel
theorem dX8_next_16 : decode cX8_next 16 = .ok (.iconst 1, 1) := by decide +kernel
theorem dX8_next_17 : decode cX8_next 17 = .ok (.putfield 134, 3) := by decide +kernel
theorem dX8_next_20 : decode cX8_next 20 = .ok (.iconst 0, 1) := by decide +kernel
theorem dX8_next_21 : decode cX8_next 21 = .ok (.ireturn, 1) := by decide +kernel
theorem dX8_next_22 : decode cX8_next 22 = .ok (.aload_n 0, 1) := by decide +kernel
theorem dX8_next_23 : decode cX8_next 23 = .ok (.getfield 40, 3) := by decide +kernel
theorem dX8_next_26 : decode cX8_next 26 = .ok (.iload_n 1, 1) := by decide +kernel
theorem dX8_next_27 : decode cX8_next 27 = .ok (.dup2, 1) := by decide +kernel
theorem dX8_next_28 : decode cX8_next 28 = .ok (.iaload, 1) := by decide +kernel
theorem dX8_next_29 : decode cX8_next 29 = .ok (.iconst 1, 1) := by decide +kernel
theorem dX8_next_30 : decode cX8_next 30 = .ok (.iadd, 1) := by decide +kernel
theorem dX8_next_31 : decode cX8_next 31 = .ok (.iastore, 1) := by decide +kernel
theorem dX8_next_32 : decode cX8_next 32 = .ok (.aload_n 0, 1) := by decide +kernel
theorem dX8_next_33 : decode cX8_next 33 = .ok (.getfield 7, 3) := by decide +kernel
theorem dX8_next_36 : decode cX8_next 36 = .ok (.sipush 2000, 3) := by decide +kernel
theorem dX8_next_39 : decode cX8_next 39 = .ok (.aload_n 0, 1) := by decide +kernel
theorem dX8_next_40 : decode cX8_next 40 = .ok (.getfield 40, 3) := by decide +kernel
theorem dX8_next_43 : decode cX8_next 43 = .ok (.iload_n 1, 1) := by decide +kernel
theorem dX8_next_44 : decode cX8_next 44 = .ok (.iaload, 1) := by decide +kernel
theorem dX8_next_45 : decode cX8_next 45 = .ok (.iadd, 1) := by decide +kernel
theorem dX8_next_46 : decode cX8_next 46 = .ok (.iconst 1, 1) := by decide +kernel
theorem dX8_next_47 : decode cX8_next 47 = .ok (.isub, 1) := by decide +kernel
theorem dX8_next_48 : decode cX8_next 48 = .ok (.iaload, 1) := by decide +kernel
theorem dX8_next_49 : decode cX8_next 49 = .ok (.ireturn, 1) := by decide +kernel
set_option maxRecDepth 20000 in
theorem ggX8_nextInteger_X8_next : GoodIn wsX8_nextInteger wsX8_next := goodIn_r _ [8, 9, 10, 1, 11, 12, 13, 14, 15, 16, 17, 18, 19, 20, 21, 22, 23, 24, 25, 26, 27, 28, 29, 30, 31, 32] (by decide +kernel) (by decide +kernel)
set_option maxRecDepth 20000 in
theorem gX8_nextInteger_X8_next : GoodIn wsX8_nextInteger (wsV RX8 138 RX8 yX8_next wsX8_next) := goodIn_app (goodIn_of _ (by decide +kernel)) ggX8_nextInteger_X8_next
theorem dX8_nextInteger_0 : decode cX8_nextInteger 0 = .ok (.lconst 0, 1) := by decide +kernel
theorem dX8_nextInteger_1 : decode cX8_nextInteger 1 = .ok (.lstore_n 2, 1) := by decide +kernel
theorem dX8_nextInteger_2 : decode cX8_nextInteger 2 = .ok (.iconst 0, 1) := by decide +kernel
theorem dX8_nextInteger_3 : decode cX8_nextInteger 3 = .ok (.istore 4, 2) := by decide +kernel
theorem dX8_nextInteger_5 : decode cX8_nextInteger 5 = .ok (.iload 4, 2) := by decide +kernel
theorem dX8_nextInteger_7 : decode cX8_nextInteger 7 = .ok (.iconst 5, 1) := by decide +kernel
theorem dX8_nextInteger_8 : decode cX8_nextInteger 8 = .ok (.if_icmp .ge 83, 3) := by decide +kernel
theorem dX8_nextInteger_11 : decode cX8_nextInteger 11 = .ok (.aload_n 0, 1) := by decide +kernel
theorem dX8_nextInteger_12 : decode cX8_nextInteger 12 = .ok (.getfield 134, 3) := by decide +kernel
theorem dX8_nextInteger_15 : decode cX8_nextInteger 15 = .ok (.ifCond .ne 76, 3) := by decide +kernel
theorem dX8_nextInteger_18 : decode cX8_nextInteger 18 = .ok (.aload_n 0, 1) := by decide +kernel
theorem dX8_nextInteger_19 : decode cX8_nextInteger 19 = .ok (.iload_n 1, 1) := by decide +kernel
theorem dX8_nextInteger_20 : decode cX8_nextInteger 20 = .ok (.invokevirtual 138, 3) := by decide +kernel
theorem dX8_nextInteger_23 : decode cX8_nextInteger 23 = .ok (.istore 5, 2) := by decide +kernel
theorem dX8_nextInteger_25 : decode cX8_nextInteger 25 = .ok (.lload_n 2, 1) := by decide +kernel
theorem dX8_nextInteger_26 : decode cX8_nextInteger 26 = .ok (.ldc2_w 141, 3) := by decide +kernel
theorem dX8_nextInteger_29 : decode cX8_nextInteger 29 = .ok (.lmul, 1) := by decide +kernel
theorem dX8_nextInteger_30 : decode cX8_nextInteger 30 = .ok (.iload 5, 2) := by decide +kernel
theorem dX8_nextInteger_32 : decode cX8_nextInteger 32 = .ok (.sipush 128, 3) := by decide +kernel
theorem dX8_nextInteger_35 : decode cX8_nextInteger 35 = .ok (.irem, 1) := by decide +kernel
theorem dX8_nextInteger_36 : decode cX8_nextInteger 36 = .ok (.i2l, 1) := by decide +kernel
theorem dX8_nextInteger_37 : decode cX8_nextInteger 37 = .ok (.ladd, 1) := by decide +kernel
theorem dX8_nextInteger_38 : decode cX8_nextInteger 38 = .ok (.lstore_n 2, 1) := by decide +kernel
theorem dX8_nextInteger_39 : decode cX8_nextInteger 39 = .ok (.iload 5, 2) := by decide +kernel
theorem dX8_nextInteger_41 : decode cX8_nextInteger 41 = .ok (.sipush 128, 3) := by decide +kernel
theorem dX8_nextInteger_44 : decode cX8_nextInteger 44 = .ok (.if_icmp .ge 41, 3) := by decide +kernel
theorem dX8_nextInteger_47 : decode cX8_nextInteger 47 = .ok (.aload_n 0, 1) := by decide +kernel
theorem dX8_nextInteger_48 : decode cX8_nextInteger 48 = .ok (.aload_n 0, 1) := by decide +kernel
theorem dX8_nextInteger_49 : decode cX8_nextInteger 49 = .ok (.getfield 134, 3) := by decide +kernel
theorem dX8_nextInteger_52 : decode cX8_nextInteger 52 = .ok (.ifCond .ne 11, 3) := by decide +kernel
theorem dX8_nextInteger_55 : decode cX8_nextInteger 55 = .ok (.lload_n 2, 1) := by decide +kernel
theorem dX8_nextInteger_56 : decode cX8_nextInteger 56 = .ok (.ldc2_w 143, 3) := by decide +kernel
theorem dX8_nextInteger_59 : decode cX8_nextInteger 59 = .ok (.lcmp, 1) := by decide +kernel
theorem dX8_nextInteger_60 : decode cX8_nextInteger 60 = .ok (.ifCond .le 7, 3) := by decide +kernel
theorem dX8_nextInteger_63 : decode cX8_nextInteger 63 = .ok (.iconst 1, 1) := by decide +kernel
theorem dX8_nextInteger_64 : decode cX8_nextInteger 64 = .ok (.goto 4, 3) := by decide +kernel
theorem dX8_nextInteger_67 : decode cX8_nextInteger 67 = .ok (.iconst 0, 1) := by decide +kernel
theorem dX8_nextInteger_68 : decode cX8_nextInteger 68 = .ok (.putfield 134, 3) := by decide +kernel
theorem dX8_nextInteger_71 : decode cX8_nextInteger 71 = .ok (.aload_n 0, 1) := by decide +kernel
theorem dX8_nextInteger_72 : decode cX8_nextInteger 72 = .ok (.getfield 134, 3) := by decide +kernel
theorem dX8_nextInteger_75 : decode cX8_nextInteger 75 = .ok (.ifCond .eq 7, 3) := by decide +kernel
theorem dX8_nextInteger_78 : decode cX8_nextInteger 78 = .ok (.iconst 0, 1) := by decide +kernel
theorem dX8_nextInteger_79 : decode cX8_nextInteger 79 = .ok (.goto 5, 3) := by decide +kernel
theorem dX8_nextInteger_82 : decode cX8_nextInteger 82 = .ok (.lload_n 2, 1) := by decide +kernel
theorem dX8_nextInteger_83 : decode cX8_nextInteger 83 = .ok (.l2i, 1) := by decide +kernel
theorem dX8_nextInteger_84 : decode cX8_nextInteger 84 = .ok (.ireturn, 1) := by decide +kernel
theorem dX8_nextInteger_85 : decode cX8_nextInteger 85 = .ok (.iinc 4 1, 3) := by decide +kernel
theorem dX8_nextInteger_88 : decode cX8_nextInteger 88 = .ok (.goto (-83), 3) := by decide +kernel
theorem dX8_nextInteger_91 : decode cX8_nextInteger 91 = .ok (.aload_n 0, 1) := by decide +kernel
theorem dX8_nextInteger_92 : decode cX8_nextInteger 92 = .ok (.iconst 1, 1) := by decide +kernel
theorem dX8_nextInteger_93 : decode cX8_nextInteger 93 = .ok (.putfield 134, 3) := by decide +kernel
theorem dX8_nextInteger_96 : decode cX8_nextInteger 96 = .ok (.iconst 0, 1) := by decide +kernel
theorem dX8_nextInteger_97 : decode cX8_nextInteger 97 = .ok (.ireturn, 1) := by decide +kernel
theorem dX8_made_0 : decode cX8_made 0 = .ok (.aload_n 0, 1) := by decide +kernel
theorem dX8_made_1 : decode cX8_made 1 = .ok (.getfield 13, 3) := by decide +kernel
theorem dX8_made_4 : decode cX8_made 4 = .ok (.iconst 4, 1) := by decide +kernel
theorem dX8_made_5 : decode cX8_made 5 = .ok (.iaload, 1) := by decide +kernel
theorem dX8_made_6 : decode cX8_made 6 = .ok (.aload_n 0, 1) := by decide +kernel
theorem dX8_made_7 : decode cX8_made 7 = .ok (.getfield 145, 3) := by decide +kernel
theorem dX8_made_10 : decode cX8_made 10 = .ok (.isub, 1) := by decide +kernel
theorem dX8_made_11 : decode cX8_made 11 = .ok (.ireturn, 1) := by decide +kernel
set_option maxRecDepth 20000 in
theorem ggX8_here_X8_made : GoodIn wsX8_here wsX8_made := goodIn_r _ [6, 7, 8, 9, 10, 11, 12, 13, 14, 15, 16, 17, 18, 19, 20, 21, 22, 23, 24, 25, 26, 27, 28, 29] (by decide +kernel) (by decide +kernel)
set_option maxRecDepth 20000 in
theorem gX8_here_X8_made : GoodIn wsX8_here (wsV RX8 151 RX8 yX8_made wsX8_made) := goodIn_app (goodIn_of _ (by decide +kernel)) ggX8_here_X8_made
theorem dX8_here_0 : decode cX8_here 0 = .ok (.aload_n 0, 1) := by decide +kernel
theorem dX8_here_1 : decode cX8_here 1 = .ok (.getfield 148, 3) := by decide +kernel
theorem dX8_here_4 : decode cX8_here 4 = .ok (.aload_n 0, 1) := by decide +kernel
theorem dX8_here_5 : decode cX8_here 5 = .ok (.invokevirtual 151, 3) := by decide +kernel
theorem dX8_here_8 : decode cX8_here 8 = .ok (.iadd, 1) := by decide +kernel
theorem dX8_here_9 : decode cX8_here 9 = .ok (.ireturn, 1) := by decide +kernel
theorem dX8_readString_0 : decode cX8_readString 0 = .ok (.iload_n 1, 1) := by decide +kernel
theorem dX8_readString_1 : decode cX8_readString 1 = .ok (.aload_n 0, 1) := by decide +kernel
theorem dX8_readString_2 : decode cX8_readString 2 = .ok (.getfield 148, 3) := by decide +kernel
theorem dX8_readString_5 : decode cX8_readString 5 = .ok (.if_icmp .lt 24, 3) := by decide +kernel
theorem dX8_readString_8 : decode cX8_readString 8 = .ok (.aload_n 0, 1) := by decide +kernel
theorem dX8_readString_9 : decode cX8_readString 9 = .ok (.getfield 7, 3) := by decide +kernel
theorem dX8_readString_12 : decode cX8_readString 12 = .ok (.sipush 4000, 3) := by decide +kernel
theorem dX8_readString_15 : decode cX8_readString 15 = .ok (.aload_n 0, 1) := by decide +kernel
theorem dX8_readString_16 : decode cX8_readString 16 = .ok (.getfield 145, 3) := by decide +kernel
theorem dX8_readString_19 : decode cX8_readString 19 = .ok (.iadd, 1) := by decide +kernel
theorem dX8_readString_20 : decode cX8_readString 20 = .ok (.iload_n 1, 1) := by decide +kernel
theorem dX8_readString_21 : decode cX8_readString 21 = .ok (.iadd, 1) := by decide +kernel
theorem dX8_readString_22 : decode cX8_readString 22 = .ok (.aload_n 0, 1) := by decide +kernel
theorem dX8_readString_23 : decode cX8_readString 23 = .ok (.getfield 148, 3) := by decide +kernel
theorem dX8_readString_26 : decode cX8_readString 26 = .ok (.isub, 1) := by decide +kernel
theorem dX8_readString_27 : decode cX8_readString 27 = .ok (.iaload, 1) := by decide +kernel
theorem dX8_readString_28 : decode cX8_readString 28 = .ok (.ireturn, 1) := by decide +kernel
theorem dX8_readString_29 : decode cX8_readString 29 = .ok (.aload_n 0, 1) := by decide +kernel
theorem dX8_readString_30 : decode cX8_readString 30 = .ok (.getfield 155, 3) := by decide +kernel
theorem dX8_readString_33 : decode cX8_readString 33 = .ok (.iconst 1, 1) := by decide +kernel
theorem dX8_readString_34 : decode cX8_readString 34 = .ok (.if_icmp .ne 17, 3) := by decide +kernel
theorem dX8_readString_37 : decode cX8_readString 37 = .ok (.aload_n 0, 1) := by decide +kernel
theorem dX8_readString_38 : decode cX8_readString 38 = .ok (.getfield 7, 3) := by decide +kernel
theorem dX8_readString_41 : decode cX8_readString 41 = .ok (.aload_n 0, 1) := by decide +kernel
theorem dX8_readString_42 : decode cX8_readString 42 = .ok (.getfield 158, 3) := by decide +kernel
theorem dX8_readString_45 : decode cX8_readString 45 = .ok (.iload_n 1, 1) := by decide +kernel
theorem dX8_readString_46 : decode cX8_readString 46 = .ok (.iadd, 1) := by decide +kernel
theorem dX8_readString_47 : decode cX8_readString 47 = .ok (.iaload, 1) := by decide +kernel
theorem dX8_readString_48 : decode cX8_readString 48 = .ok (.goto 18, 3) := by decide +kernel
theorem dX8_readString_51 : decode cX8_readString 51 = .ok (.aload_n 0, 1) := by decide +kernel
theorem dX8_readString_52 : decode cX8_readString 52 = .ok (.getfield 7, 3) := by decide +kernel
theorem dX8_readString_55 : decode cX8_readString 55 = .ok (.sipush 4000, 3) := by decide +kernel
theorem dX8_readString_58 : decode cX8_readString 58 = .ok (.aload_n 0, 1) := by decide +kernel
theorem dX8_readString_59 : decode cX8_readString 59 = .ok (.getfield 158, 3) := by decide +kernel
theorem dX8_readString_62 : decode cX8_readString 62 = .ok (.iadd, 1) := by decide +kernel
theorem dX8_readString_63 : decode cX8_readString 63 = .ok (.iload_n 1, 1) := by decide +kernel
theorem dX8_readString_64 : decode cX8_readString 64 = .ok (.iadd, 1) := by decide +kernel
theorem dX8_readString_65 : decode cX8_readString 65 = .ok (.iaload, 1) := by decide +kernel
theorem dX8_readString_66 : decode cX8_readString 66 = .ok (.ireturn, 1) := by decide +kernel
set_option maxRecDepth 20000 in
theorem ggX8_address_X8_next : GoodIn wsX8_address wsX8_next := goodIn_r _ [8, 9, 10, 3, 11, 29, 30, 31, 32, 33, 34, 35, 36, 37, 38, 39, 40, 41, 42, 43, 44, 45, 46, 47, 48, 49] (by decide +kernel) (by decide +kernel)
set_option maxRecDepth 20000 in
theorem gX8_address_X8_next : GoodIn wsX8_address (wsV RX8 138 RX8 yX8_next wsX8_next) := goodIn_app (goodIn_of _ (by decide +kernel)) ggX8_address_X8_next
set_option maxRecDepth 20000 in
theorem ggX8_address_X8_nextInteger : GoodIn wsX8_address wsX8_nextInteger := goodIn_r _ [15, 3, 16, 17, 4, 5, 6, 7, 8, 9, 10, 11, 29, 30, 31, 32, 33, 34, 35, 36, 37, 38, 39, 40, 41, 42, 43, 44, 45, 46, 47, 48, 49] (by decide +kernel) (by decide +kernel)
set_option maxRecDepth 20000 in
theorem gX8_address_X8_nextInteger : GoodIn wsX8_address (wsV RX8 161 RX8 yX8_nextInteger wsX8_nextInteger) := goodIn_app (goodIn_of _ (by decide +kernel)) ggX8_address_X8_nextInteger
set_option maxRecDepth 20000 in
theorem ggX8_address_X8_here : GoodIn wsX8_address wsX8_here := goodIn_r _ [21, 22, 23, 24, 25, 7, 26, 27, 28, 29, 30, 31, 32, 33, 34, 35, 36, 37, 38, 39, 40, 41, 42, 43, 44, 45, 46, 47, 48, 49] (by decide +kernel) (by decide +kernel)
set_option maxRecDepth 20000 in
theorem gX8_address_X8_here : GoodIn wsX8_address (wsV RX8 164 RX8 yX8_here wsX8_here) := goodIn_app (goodIn_of _ (by decide +kernel)) ggX8_address_X8_here
theorem dX8_address_0 : decode cX8_address 0 = .ok (.lconst 0, 1) := by decide +kernel
theorem dX8_address_1 : decode cX8_address 1 = .ok (.lstore_n 2, 1) := by decide +kernel
theorem dX8_address_2 : decode cX8_address 2 = .ok (.iload_n 1, 1) := by decide +kernel
theorem dX8_address_3 : decode cX8_address 3 = .ok (.iconst 5, 1) := by decide +kernel
theorem dX8_address_4 : decode cX8_address 4 = .ok (.if_icmp .le 31, 3) := by decide +kernel
theorem dX8_address_7 : decode cX8_address 7 = .ok (.aload_n 0, 1) := by decide +kernel
theorem dX8_address_8 : decode cX8_address 8 = .ok (.iconst 2, 1) := by decide +kernel
theorem dX8_address_9 : decode cX8_address 9 = .ok (.invokevirtual 138, 3) := by decide +kernel
theorem dX8_address_12 : decode cX8_address 12 = .ok (.istore 4, 2) := by decide +kernel
theorem dX8_address_14 : decode cX8_address 14 = .ok (.aload_n 0, 1) := by decide +kernel
theorem dX8_address_15 : decode cX8_address 15 = .ok (.getfield 19, 3) := by decide +kernel
theorem dX8_address_18 : decode cX8_address 18 = .ok (.sipush 256, 3) := by decide +kernel
theorem dX8_address_21 : decode cX8_address 21 = .ok (.iload_n 1, 1) := by decide +kernel
theorem dX8_address_22 : decode cX8_address 22 = .ok (.bipush 6, 2) := by decide +kernel
theorem dX8_address_24 : decode cX8_address 24 = .ok (.isub, 1) := by decide +kernel
theorem dX8_address_25 : decode cX8_address 25 = .ok (.imul, 1) := by decide +kernel
theorem dX8_address_26 : decode cX8_address 26 = .ok (.iload 4, 2) := by decide +kernel
theorem dX8_address_28 : decode cX8_address 28 = .ok (.iadd, 1) := by decide +kernel
theorem dX8_address_29 : decode cX8_address 29 = .ok (.iaload, 1) := by decide +kernel
theorem dX8_address_30 : decode cX8_address 30 = .ok (.i2l, 1) := by decide +kernel
theorem dX8_address_31 : decode cX8_address 31 = .ok (.lstore_n 2, 1) := by decide +kernel
theorem dX8_address_32 : decode cX8_address 32 = .ok (.goto 49, 3) := by decide +kernel
theorem dX8_address_35 : decode cX8_address 35 = .ok (.aload_n 0, 1) := by decide +kernel
theorem dX8_address_36 : decode cX8_address 36 = .ok (.iconst 2, 1) := by decide +kernel
theorem dX8_address_37 : decode cX8_address 37 = .ok (.invokevirtual 161, 3) := by decide +kernel
theorem dX8_address_40 : decode cX8_address 40 = .ok (.i2l, 1) := by decide +kernel
theorem dX8_address_41 : decode cX8_address 41 = .ok (.lstore 4, 2) := by decide +kernel
theorem dX8_address_43 : decode cX8_address 43 = .ok (.iload_n 1, 1) := by decide +kernel
theorem dX8_address_44 : decode cX8_address 44 = .ok (.ifCond .ne 8, 3) := by decide +kernel
theorem dX8_address_47 : decode cX8_address 47 = .ok (.lload 4, 2) := by decide +kernel
theorem dX8_address_49 : decode cX8_address 49 = .ok (.goto 31, 3) := by decide +kernel
theorem dX8_address_52 : decode cX8_address 52 = .ok (.iload_n 1, 1) := by decide +kernel
theorem dX8_address_53 : decode cX8_address 53 = .ok (.iconst 1, 1) := by decide +kernel
theorem dX8_address_54 : decode cX8_address 54 = .ok (.if_icmp .ne 14, 3) := by decide +kernel
theorem dX8_address_57 : decode cX8_address 57 = .ok (.aload_n 0, 1) := by decide +kernel
theorem dX8_address_58 : decode cX8_address 58 = .ok (.invokevirtual 164, 3) := by decide +kernel
theorem dX8_address_61 : decode cX8_address 61 = .ok (.i2l, 1) := by decide +kernel
theorem dX8_address_62 : decode cX8_address 62 = .ok (.lload 4, 2) := by decide +kernel
theorem dX8_address_64 : decode cX8_address 64 = .ok (.lsub, 1) := by decide +kernel
theorem dX8_address_65 : decode cX8_address 65 = .ok (.goto 15, 3) := by decide +kernel
theorem dX8_address_68 : decode cX8_address 68 = .ok (.aload_n 0, 1) := by decide +kernel
theorem dX8_address_69 : decode cX8_address 69 = .ok (.getfield 16, 3) := by decide +kernel
theorem dX8_address_72 : decode cX8_address 72 = .ok (.iload_n 1, 1) := by decide +kernel
theorem dX8_address_73 : decode cX8_address 73 = .ok (.iconst 2, 1) := by decide +kernel
theorem dX8_address_74 : decode cX8_address 74 = .ok (.isub, 1) := by decide +kernel
theorem dX8_address_75 : decode cX8_address 75 = .ok (.iaload, 1) := by decide +kernel
theorem dX8_address_76 : decode cX8_address 76 = .ok (.i2l, 1) := by decide +kernel
theorem dX8_address_77 : decode cX8_address 77 = .ok (.lload 4, 2) := by decide +kernel
theorem dX8_address_79 : decode cX8_address 79 = .ok (.ladd, 1) := by decide +kernel
theorem dX8_address_80 : decode cX8_address 80 = .ok (.lstore_n 2, 1) := by decide +kernel
theorem dX8_address_81 : decode cX8_address 81 = .ok (.aload_n 0, 1) := by decide +kernel
theorem dX8_address_82 : decode cX8_address 82 = .ok (.aload_n 0, 1) := by decide +kernel
theorem dX8_address_83 : decode cX8_address 83 = .ok (.getfield 134, 3) := by decide +kernel
theorem dX8_address_86 : decode cX8_address 86 = .ok (.ifCond .ne 19, 3) := by decide +kernel
theorem dX8_address_89 : decode cX8_address 89 = .ok (.lload_n 2, 1) := by decide +kernel
end
section
theorem dX8_address_90 : decode cX8_address 90 = .ok (.lconst 0, 1) := by decide +kernel
theorem dX8_address_91 : decode cX8_address 91 = .ok (.lcmp, 1) := by decide +kernel
theorem dX8_address_92 : decode cX8_address 92 = .ok (.ifCond .lt 13, 3) := by decide +kernel
theorem dX8_address_95 : decode cX8_address 95 = .ok (.lload_n 2, 1) := by decide +kernel
theorem dX8_address_96 : decode cX8_address 96 = .ok (.aload_n 0, 1) := by decide +kernel
theorem dX8_address_97 : decode cX8_address 97 = .ok (.invokevirtual 164, 3) := by decide +kernel
theorem dX8_address_100 : decode cX8_address 100 = .ok (.i2l, 1) := by decide +kernel
theorem dX8_address_101 : decode cX8_address 101 = .ok (.lcmp, 1) := by decide +kernel
theorem dX8_address_102 : decode cX8_address 102 = .ok (.ifCond .lt 7, 3) := by decide +kernel
theorem dX8_address_105 : decode cX8_address 105 = .ok (.iconst 1, 1) := by decide +kernel
theorem dX8_address_106 : decode cX8_address 106 = .ok (.goto 4, 3) := by decide +kernel
theorem dX8_address_109 : decode cX8_address 109 = .ok (.iconst 0, 1) := by decide +kernel
theorem dX8_address_110 : decode cX8_address 110 = .ok (.putfield 134, 3) := by decide +kernel
theorem dX8_address_113 : decode cX8_address 113 = .ok (.aload_n 0, 1) := by decide +kernel
theorem dX8_address_114 : decode cX8_address 114 = .ok (.getfield 134, 3) := by decide +kernel
theorem dX8_address_117 : decode cX8_address 117 = .ok (.ifCond .eq 7, 3) := by decide +kernel
theorem dX8_address_120 : decode cX8_address 120 = .ok (.iconst 0, 1) := by decide +kernel
theorem dX8_address_121 : decode cX8_address 121 = .ok (.goto 5, 3) := by decide +kernel
theorem dX8_address_124 : decode cX8_address 124 = .ok (.lload_n 2, 1) := by decide +kernel
theorem dX8_address_125 : decode cX8_address 125 = .ok (.l2i, 1) := by decide +kernel
theorem dX8_address_126 : decode cX8_address 126 = .ok (.ireturn, 1) := by decide +kernel
set_option maxRecDepth 20000 in
theorem ggX8_perform_X8_made : GoodIn wsX8_perform wsX8_made := goodIn_r _ [7, 8, 9, 49, 50, 51, 52, 53, 54, 55, 56, 57, 58, 59, 60, 61, 62, 63, 64, 65, 66, 67, 68, 69] (by decide +kernel) (by decide +kernel)
set_option maxRecDepth 20000 in
theorem gX8_perform_X8_made : GoodIn wsX8_perform (wsV RX8 151 RX8 yX8_made wsX8_made) := goodIn_app (goodIn_of _ (by decide +kernel)) ggX8_perform_X8_made
set_option maxRecDepth 20000 in
theorem ggX8_perform_X8_address : GoodIn wsX8_perform wsX8_address := goodIn_r _ [13, 14, 15, 2, 16, 17, 18, 6, 19, 20, 21, 22, 23, 24, 25, 26, 27, 28, 29, 30, 31, 32, 33, 3, 4, 5, 7, 8, 9, 49, 50, 51, 52, 53, 54, 55, 56, 57, 58, 59, 60, 61, 62, 63, 64, 65, 66, 67, 68, 69] (by decide +kernel) (by decide +kernel)
set_option maxRecDepth 20000 in
theorem gX8_perform_X8_address : GoodIn wsX8_perform (wsV RX8 170 RX8 yX8_address wsX8_address) := goodIn_app (goodIn_of _ (by decide +kernel)) ggX8_perform_X8_address
set_option maxRecDepth 20000 in
theorem ggX8_perform_X8_readString : GoodIn wsX8_perform wsX8_readString := goodIn_r _ [37, 33, 22, 9, 38, 39, 49, 50, 51, 52, 53, 54, 55, 56, 57, 58, 59, 60, 61, 62, 63, 64, 65, 66, 67, 68, 69] (by decide +kernel) (by decide +kernel)
set_option maxRecDepth 20000 in
theorem gX8_perform_X8_readString : GoodIn wsX8_perform (wsV RX8 173 RX8 yX8_readString wsX8_readString) := goodIn_app (goodIn_of _ (by decide +kernel)) ggX8_perform_X8_readString
set_option maxRecDepth 20000 in
theorem ggX8_perform_X8_append : GoodIn wsX8_perform wsX8_append := goodIn_r _ [43, 22, 8, 49, 50, 51, 52, 53, 54, 55, 56, 57, 58, 59, 60, 61, 62, 63, 64, 65, 66, 67, 68, 69] (by decide +kernel) (by decide +kernel)
set_option maxRecDepth 20000 in
theorem gX8_perform_X8_append : GoodIn wsX8_perform (wsV RX8 54 RX8 yX8_append wsX8_append) := goodIn_app (goodIn_of _ (by decide +kernel)) ggX8_perform_X8_append
set_option maxRecDepth 20000 in
theorem ggX8_perform_X8_note : GoodIn wsX8_perform wsX8_note := goodIn_r _ [47, 15, 48, 14, 49, 50, 51, 52, 53, 54, 55, 56, 57, 58, 59, 60, 61, 62, 63, 64, 65, 66, 67, 68, 69] (by decide +kernel) (by decide +kernel)
set_option maxRecDepth 20000 in
theorem gX8_perform_X8_note : GoodIn wsX8_perform (wsV RX8 92 RX8 yX8_note wsX8_note) := goodIn_app (goodIn_of _ (by decide +kernel)) ggX8_perform_X8_note
set_option maxRecDepth 20000 in
theorem ggX8_perform_X8_next : GoodIn wsX8_perform wsX8_next := goodIn_r _ [19, 20, 21, 2, 22, 49, 50, 51, 52, 53, 54, 55, 56, 57, 58, 59, 60, 61, 62, 63, 64, 65, 66, 67, 68, 69] (by decide +kernel) (by decide +kernel)
set_option maxRecDepth 20000 in
theorem gX8_perform_X8_next : GoodIn wsX8_perform (wsV RX8 138 RX8 yX8_next wsX8_next) := goodIn_app (goodIn_of _ (by decide +kernel)) ggX8_perform_X8_next
theorem dX8_perform_0 : decode cX8_perform 0 = .ok (.iload_n 2, 1) := by decide +kernel
theorem dX8_perform_1 : decode cX8_perform 1 = .ok (.ifCond .eq 16, 3) := by decide +kernel
theorem dX8_perform_4 : decode cX8_perform 4 = .ok (.iload_n 2, 1) := by decide +kernel
theorem dX8_perform_5 : decode cX8_perform 5 = .ok (.aload_n 0, 1) := by decide +kernel
theorem dX8_perform_6 : decode cX8_perform 6 = .ok (.getfield 167, 3) := by decide +kernel
theorem dX8_perform_9 : decode cX8_perform 9 = .ok (.aload_n 0, 1) := by decide +kernel
theorem dX8_perform_10 : decode cX8_perform 10 = .ok (.invokevirtual 151, 3) := by decide +kernel
theorem dX8_perform_13 : decode cX8_perform 13 = .ok (.isub, 1) := by decide +kernel
theorem dX8_perform_14 : decode cX8_perform 14 = .ok (.if_icmp .le 9, 3) := by decide +kernel
theorem dX8_perform_17 : decode cX8_perform 17 = .ok (.aload_n 0, 1) := by decide +kernel
theorem dX8_perform_18 : decode cX8_perform 18 = .ok (.iconst 1, 1) := by decide +kernel
theorem dX8_perform_19 : decode cX8_perform 19 = .ok (.putfield 134, 3) := by decide +kernel
theorem dX8_perform_22 : decode cX8_perform 22 = .ok (.return_, 1) := by decide +kernel
theorem dX8_perform_23 : decode cX8_perform 23 = .ok (.iload_n 1, 1) := by decide +kernel
theorem dX8_perform_24 : decode cX8_perform 24 = .ok (.iconst 3, 1) := by decide +kernel
theorem dX8_perform_25 : decode cX8_perform 25 = .ok (.if_icmp .ne 60, 3) := by decide +kernel
theorem dX8_perform_28 : decode cX8_perform 28 = .ok (.aload_n 0, 1) := by decide +kernel
theorem dX8_perform_29 : decode cX8_perform 29 = .ok (.iload_n 3, 1) := by decide +kernel
theorem dX8_perform_30 : decode cX8_perform 30 = .ok (.invokevirtual 170, 3) := by decide +kernel
theorem dX8_perform_33 : decode cX8_perform 33 = .ok (.istore 4, 2) := by decide +kernel
theorem dX8_perform_35 : decode cX8_perform 35 = .ok (.iconst 0, 1) := by decide +kernel
theorem dX8_perform_36 : decode cX8_perform 36 = .ok (.istore 5, 2) := by decide +kernel
theorem dX8_perform_38 : decode cX8_perform 38 = .ok (.iload 5, 2) := by decide +kernel
theorem dX8_perform_40 : decode cX8_perform 40 = .ok (.iload_n 2, 1) := by decide +kernel
theorem dX8_perform_41 : decode cX8_perform 41 = .ok (.if_icmp .ge 30, 3) := by decide +kernel
theorem dX8_perform_44 : decode cX8_perform 44 = .ok (.aload_n 0, 1) := by decide +kernel
theorem dX8_perform_45 : decode cX8_perform 45 = .ok (.getfield 134, 3) := by decide +kernel
theorem dX8_perform_48 : decode cX8_perform 48 = .ok (.ifCond .ne 23, 3) := by decide +kernel
theorem dX8_perform_51 : decode cX8_perform 51 = .ok (.aload_n 0, 1) := by decide +kernel
theorem dX8_perform_52 : decode cX8_perform 52 = .ok (.iconst 4, 1) := by decide +kernel
theorem dX8_perform_53 : decode cX8_perform 53 = .ok (.aload_n 0, 1) := by decide +kernel
theorem dX8_perform_54 : decode cX8_perform 54 = .ok (.iload 4, 2) := by decide +kernel
theorem dX8_perform_56 : decode cX8_perform 56 = .ok (.iload 5, 2) := by decide +kernel
theorem dX8_perform_58 : decode cX8_perform 58 = .ok (.iadd, 1) := by decide +kernel
theorem dX8_perform_59 : decode cX8_perform 59 = .ok (.invokevirtual 173, 3) := by decide +kernel
theorem dX8_perform_62 : decode cX8_perform 62 = .ok (.invokevirtual 54, 3) := by decide +kernel
theorem dX8_perform_65 : decode cX8_perform 65 = .ok (.iinc 5 1, 3) := by decide +kernel
theorem dX8_perform_68 : decode cX8_perform 68 = .ok (.goto (-30), 3) := by decide +kernel
theorem dX8_perform_71 : decode cX8_perform 71 = .ok (.aload_n 0, 1) := by decide +kernel
theorem dX8_perform_72 : decode cX8_perform 72 = .ok (.getfield 134, 3) := by decide +kernel
theorem dX8_perform_75 : decode cX8_perform 75 = .ok (.ifCond .ne 9, 3) := by decide +kernel
theorem dX8_perform_78 : decode cX8_perform 78 = .ok (.aload_n 0, 1) := by decide +kernel
theorem dX8_perform_79 : decode cX8_perform 79 = .ok (.iload 4, 2) := by decide +kernel
theorem dX8_perform_81 : decode cX8_perform 81 = .ok (.invokevirtual 92, 3) := by decide +kernel
theorem dX8_perform_84 : decode cX8_perform 84 = .ok (.return_, 1) := by decide +kernel
theorem dX8_perform_85 : decode cX8_perform 85 = .ok (.iconst 0, 1) := by decide +kernel
theorem dX8_perform_86 : decode cX8_perform 86 = .ok (.istore 4, 2) := by decide +kernel
theorem dX8_perform_88 : decode cX8_perform 88 = .ok (.iconst 0, 1) := by decide +kernel
theorem dX8_perform_89 : decode cX8_perform 89 = .ok (.istore 5, 2) := by decide +kernel
theorem dX8_perform_91 : decode cX8_perform 91 = .ok (.iload 5, 2) := by decide +kernel
theorem dX8_perform_93 : decode cX8_perform 93 = .ok (.iload_n 2, 1) := by decide +kernel
theorem dX8_perform_94 : decode cX8_perform 94 = .ok (.if_icmp .ge 45, 3) := by decide +kernel
theorem dX8_perform_97 : decode cX8_perform 97 = .ok (.aload_n 0, 1) := by decide +kernel
theorem dX8_perform_98 : decode cX8_perform 98 = .ok (.getfield 134, 3) := by decide +kernel
theorem dX8_perform_101 : decode cX8_perform 101 = .ok (.ifCond .ne 38, 3) := by decide +kernel
theorem dX8_perform_104 : decode cX8_perform 104 = .ok (.iload_n 1, 1) := by decide +kernel
theorem dX8_perform_105 : decode cX8_perform 105 = .ok (.iconst 1, 1) := by decide +kernel
theorem dX8_perform_106 : decode cX8_perform 106 = .ok (.if_icmp .eq 8, 3) := by decide +kernel
theorem dX8_perform_109 : decode cX8_perform 109 = .ok (.iload 5, 2) := by decide +kernel
theorem dX8_perform_111 : decode cX8_perform 111 = .ok (.ifCond .ne 11, 3) := by decide +kernel
theorem dX8_perform_114 : decode cX8_perform 114 = .ok (.aload_n 0, 1) := by decide +kernel
theorem dX8_perform_115 : decode cX8_perform 115 = .ok (.iconst 0, 1) := by decide +kernel
theorem dX8_perform_116 : decode cX8_perform 116 = .ok (.invokevirtual 138, 3) := by decide +kernel
theorem dX8_perform_119 : decode cX8_perform 119 = .ok (.goto 5, 3) := by decide +kernel
theorem dX8_perform_122 : decode cX8_perform 122 = .ok (.iload 4, 2) := by decide +kernel
theorem dX8_perform_124 : decode cX8_perform 124 = .ok (.istore 4, 2) := by decide +kernel
theorem dX8_perform_126 : decode cX8_perform 126 = .ok (.aload_n 0, 1) := by decide +kernel
theorem dX8_perform_127 : decode cX8_perform 127 = .ok (.iconst 4, 1) := by decide +kernel
theorem dX8_perform_128 : decode cX8_perform 128 = .ok (.iload 4, 2) := by decide +kernel
theorem dX8_perform_130 : decode cX8_perform 130 = .ok (.invokevirtual 54, 3) := by decide +kernel
theorem dX8_perform_133 : decode cX8_perform 133 = .ok (.iinc 5 1, 3) := by decide +kernel
theorem dX8_perform_136 : decode cX8_perform 136 = .ok (.goto (-45), 3) := by decide +kernel
theorem dX8_perform_139 : decode cX8_perform 139 = .ok (.return_, 1) := by decide +kernel
set_option maxRecDepth 20000 in
theorem ggX8_performAll_X8_next : GoodIn wsX8_performAll wsX8_next := goodIn_r _ [9, 1, 2, 3, 10, 56, 57, 58, 59, 60, 61, 62, 63, 64, 65, 66, 67, 68, 69, 70, 71, 72, 73, 74, 75, 76] (by decide +kernel) (by decide +kernel)
set_option maxRecDepth 20000 in
theorem gX8_performAll_X8_next : GoodIn wsX8_performAll (wsV RX8 138 RX8 yX8_next wsX8_next) := goodIn_app (goodIn_of _ (by decide +kernel)) ggX8_performAll_X8_next
set_option maxRecDepth 20000 in
theorem ggX8_performAll_X8_part : GoodIn wsX8_performAll wsX8_part := goodIn_r _ [13] (by decide +kernel) (by decide +kernel)
set_option maxRecDepth 20000 in
theorem gX8_performAll_X8_part : GoodIn wsX8_performAll (va_wsS RX8 58 yX8_part wsX8_part) := goodIn_app (goodIn_of _ (by decide +kernel)) ggX8_performAll_X8_part
set_option maxRecDepth 20000 in
theorem ggX8_performAll_X8_nextInteger : GoodIn wsX8_performAll wsX8_nextInteger := goodIn_r _ [17, 3, 18, 19, 5, 6, 7, 8, 9, 1, 2, 10, 56, 57, 58, 59, 60, 61, 62, 63, 64, 65, 66, 67, 68, 69, 70, 71, 72, 73, 74, 75, 76] (by decide +kernel) (by decide +kernel)
set_option maxRecDepth 20000 in
theorem gX8_performAll_X8_nextInteger : GoodIn wsX8_performAll (wsV RX8 161 RX8 yX8_nextInteger wsX8_nextInteger) := goodIn_app (goodIn_of _ (by decide +kernel)) ggX8_performAll_X8_nextInteger
set_option maxRecDepth 20000 in
theorem ggX8_performAll_X8_perform : GoodIn wsX8_performAll wsX8_perform := goodIn_r _ [23, 4, 3, 24, 25, 26, 8, 27, 28, 29, 30, 31, 32, 33, 34, 35, 5, 6, 7, 9, 1, 2, 10, 14, 15, 16, 17, 18, 19, 36, 37, 38, 39, 40, 41, 42, 43, 44, 45, 46, 47, 48, 49, 50, 51, 52, 53, 54, 55, 56, 57, 58, 59, 60, 61, 62, 63, 64, 65, 66, 67, 68, 69, 70, 71, 72, 73, 74, 75, 76] (by decide +kernel) (by decide +kernel)
set_option maxRecDepth 20000 in
theorem gX8_performAll_X8_perform : GoodIn wsX8_performAll (wsV RX8 176 RX8 yX8_perform wsX8_perform) := goodIn_app (goodIn_of _ (by decide +kernel)) ggX8_performAll_X8_perform
set_option maxRecDepth 20000 in
theorem ggX8_performAll_X8_made : GoodIn wsX8_performAll wsX8_made := goodIn_r _ [27, 28, 29, 56, 57, 58, 59, 60, 61, 62, 63, 64, 65, 66, 67, 68, 69, 70, 71, 72, 73, 74, 75, 76] (by decide +kernel) (by decide +kernel)
set_option maxRecDepth 20000 in
theorem gX8_performAll_X8_made : GoodIn wsX8_performAll (wsV RX8 151 RX8 yX8_made wsX8_made) := goodIn_app (goodIn_of _ (by decide +kernel)) ggX8_performAll_X8_made
theorem dX8_performAll_0 : decode cX8_performAll 0 = .ok (.aload_n 0, 1) := by decide +kernel
theorem dX8_performAll_1 : decode cX8_performAll 1 = .ok (.getfield 40, 3) := by decide +kernel
theorem dX8_performAll_4 : decode cX8_performAll 4 = .ok (.iconst 1, 1) := by decide +kernel
theorem dX8_performAll_5 : decode cX8_performAll 5 = .ok (.iaload, 1) := by decide +kernel
theorem dX8_performAll_6 : decode cX8_performAll 6 = .ok (.aload_n 0, 1) := by decide +kernel
theorem dX8_performAll_7 : decode cX8_performAll 7 = .ok (.getfield 43, 3) := by decide +kernel
theorem dX8_performAll_10 : decode cX8_performAll 10 = .ok (.iconst 1, 1) := by decide +kernel
theorem dX8_performAll_11 : decode cX8_performAll 11 = .ok (.iaload, 1) := by decide +kernel
theorem dX8_performAll_12 : decode cX8_performAll 12 = .ok (.if_icmp .ge 95, 3) := by decide +kernel
theorem dX8_performAll_15 : decode cX8_performAll 15 = .ok (.aload_n 0, 1) := by decide +kernel
theorem dX8_performAll_16 : decode cX8_performAll 16 = .ok (.getfield 134, 3) := by decide +kernel
theorem dX8_performAll_19 : decode cX8_performAll 19 = .ok (.ifCond .ne 88, 3) := by decide +kernel
theorem dX8_performAll_22 : decode cX8_performAll 22 = .ok (.aload_n 0, 1) := by decide +kernel
theorem dX8_performAll_23 : decode cX8_performAll 23 = .ok (.iconst 1, 1) := by decide +kernel
theorem dX8_performAll_24 : decode cX8_performAll 24 = .ok (.invokevirtual 138, 3) := by decide +kernel
theorem dX8_performAll_27 : decode cX8_performAll 27 = .ok (.istore_n 1, 1) := by decide +kernel
theorem dX8_performAll_28 : decode cX8_performAll 28 = .ok (.iconst 0, 1) := by decide +kernel
theorem dX8_performAll_29 : decode cX8_performAll 29 = .ok (.istore_n 2, 1) := by decide +kernel
theorem dX8_performAll_30 : decode cX8_performAll 30 = .ok (.iload_n 2, 1) := by decide +kernel
theorem dX8_performAll_31 : decode cX8_performAll 31 = .ok (.iconst 2, 1) := by decide +kernel
theorem dX8_performAll_32 : decode cX8_performAll 32 = .ok (.if_icmp .ge 72, 3) := by decide +kernel
theorem dX8_performAll_35 : decode cX8_performAll 35 = .ok (.aload_n 0, 1) := by decide +kernel
theorem dX8_performAll_36 : decode cX8_performAll 36 = .ok (.getfield 134, 3) := by decide +kernel
theorem dX8_performAll_39 : decode cX8_performAll 39 = .ok (.ifCond .ne 65, 3) := by decide +kernel
theorem dX8_performAll_42 : decode cX8_performAll 42 = .ok (.iload_n 1, 1) := by decide +kernel
theorem dX8_performAll_43 : decode cX8_performAll 43 = .ok (.iconst 3, 1) := by decide +kernel
theorem dX8_performAll_44 : decode cX8_performAll 44 = .ok (.iload_n 2, 1) := by decide +kernel
theorem dX8_performAll_45 : decode cX8_performAll 45 = .ok (.imul, 1) := by decide +kernel
theorem dX8_performAll_46 : decode cX8_performAll 46 = .ok (.invokestatic 58, 3) := by decide +kernel
theorem dX8_performAll_49 : decode cX8_performAll 49 = .ok (.istore_n 3, 1) := by decide +kernel
theorem dX8_performAll_50 : decode cX8_performAll 50 = .ok (.iload_n 1, 1) := by decide +kernel
theorem dX8_performAll_51 : decode cX8_performAll 51 = .ok (.iconst 3, 1) := by decide +kernel
theorem dX8_performAll_52 : decode cX8_performAll 52 = .ok (.iload_n 2, 1) := by decide +kernel
theorem dX8_performAll_53 : decode cX8_performAll 53 = .ok (.imul, 1) := by decide +kernel
theorem dX8_performAll_54 : decode cX8_performAll 54 = .ok (.iconst 1, 1) := by decide +kernel
theorem dX8_performAll_55 : decode cX8_performAll 55 = .ok (.iadd, 1) := by decide +kernel
theorem dX8_performAll_56 : decode cX8_performAll 56 = .ok (.invokestatic 58, 3) := by decide +kernel
theorem dX8_performAll_59 : decode cX8_performAll 59 = .ok (.istore 4, 2) := by decide +kernel
theorem dX8_performAll_61 : decode cX8_performAll 61 = .ok (.iload_n 3, 1) := by decide +kernel
theorem dX8_performAll_62 : decode cX8_performAll 62 = .ok (.ifCond .le 36, 3) := by decide +kernel
theorem dX8_performAll_65 : decode cX8_performAll 65 = .ok (.iload 4, 2) := by decide +kernel
theorem dX8_performAll_67 : decode cX8_performAll 67 = .ok (.ifCond .ne 11, 3) := by decide +kernel
theorem dX8_performAll_70 : decode cX8_performAll 70 = .ok (.aload_n 0, 1) := by decide +kernel
theorem dX8_performAll_71 : decode cX8_performAll 71 = .ok (.iconst 1, 1) := by decide +kernel
theorem dX8_performAll_72 : decode cX8_performAll 72 = .ok (.invokevirtual 161, 3) := by decide +kernel
theorem dX8_performAll_75 : decode cX8_performAll 75 = .ok (.goto 5, 3) := by decide +kernel
theorem dX8_performAll_78 : decode cX8_performAll 78 = .ok (.iload 4, 2) := by decide +kernel
theorem dX8_performAll_80 : decode cX8_performAll 80 = .ok (.istore 4, 2) := by decide +kernel
theorem dX8_performAll_82 : decode cX8_performAll 82 = .ok (.aload_n 0, 1) := by decide +kernel
theorem dX8_performAll_83 : decode cX8_performAll 83 = .ok (.iload_n 3, 1) := by decide +kernel
theorem dX8_performAll_84 : decode cX8_performAll 84 = .ok (.iload 4, 2) := by decide +kernel
theorem dX8_performAll_86 : decode cX8_performAll 86 = .ok (.iload_n 1, 1) := by decide +kernel
theorem dX8_performAll_87 : decode cX8_performAll 87 = .ok (.iconst 3, 1) := by decide +kernel
theorem dX8_performAll_88 : decode cX8_performAll 88 = .ok (.iload_n 2, 1) := by decide +kernel
theorem dX8_performAll_89 : decode cX8_performAll 89 = .ok (.imul, 1) := by decide +kernel
theorem dX8_performAll_90 : decode cX8_performAll 90 = .ok (.iconst 2, 1) := by decide +kernel
theorem dX8_performAll_91 : decode cX8_performAll 91 = .ok (.iadd, 1) := by decide +kernel
theorem dX8_performAll_92 : decode cX8_performAll 92 = .ok (.invokestatic 58, 3) := by decide +kernel
theorem dX8_performAll_95 : decode cX8_performAll 95 = .ok (.invokevirtual 176, 3) := by decide +kernel
theorem dX8_performAll_98 : decode cX8_performAll 98 = .ok (.iinc 2 1, 3) := by decide +kernel
theorem dX8_performAll_101 : decode cX8_performAll 101 = .ok (.goto (-71), 3) := by decide +kernel
theorem dX8_performAll_104 : decode cX8_performAll 104 = .ok (.goto (-104), 3) := by decide +kernel
theorem dX8_performAll_107 : decode cX8_performAll 107 = .ok (.aload_n 0, 1) := by decide +kernel
theorem dX8_performAll_108 : decode cX8_performAll 108 = .ok (.aload_n 0, 1) := by decide +kernel
theorem dX8_performAll_109 : decode cX8_performAll 109 = .ok (.getfield 134, 3) := by decide +kernel
theorem dX8_performAll_112 : decode cX8_performAll 112 = .ok (.ifCond .ne 44, 3) := by decide +kernel
theorem dX8_performAll_115 : decode cX8_performAll 115 = .ok (.aload_n 0, 1) := by decide +kernel
theorem dX8_performAll_116 : decode cX8_performAll 116 = .ok (.invokevirtual 151, 3) := by decide +kernel
theorem dX8_performAll_119 : decode cX8_performAll 119 = .ok (.aload_n 0, 1) := by decide +kernel
theorem dX8_performAll_120 : decode cX8_performAll 120 = .ok (.getfield 167, 3) := by decide +kernel
theorem dX8_performAll_123 : decode cX8_performAll 123 = .ok (.if_icmp .ne 33, 3) := by decide +kernel
theorem dX8_performAll_126 : decode cX8_performAll 126 = .ok (.aload_n 0, 1) := by decide +kernel
theorem dX8_performAll_127 : decode cX8_performAll 127 = .ok (.getfield 40, 3) := by decide +kernel
theorem dX8_performAll_130 : decode cX8_performAll 130 = .ok (.iconst 0, 1) := by decide +kernel
theorem dX8_performAll_131 : decode cX8_performAll 131 = .ok (.iaload, 1) := by decide +kernel
theorem dX8_performAll_132 : decode cX8_performAll 132 = .ok (.aload_n 0, 1) := by decide +kernel
theorem dX8_performAll_133 : decode cX8_performAll 133 = .ok (.getfield 43, 3) := by decide +kernel
theorem dX8_performAll_136 : decode cX8_performAll 136 = .ok (.iconst 0, 1) := by decide +kernel
theorem dX8_performAll_137 : decode cX8_performAll 137 = .ok (.iaload, 1) := by decide +kernel
theorem dX8_performAll_138 : decode cX8_performAll 138 = .ok (.if_icmp .ne 18, 3) := by decide +kernel
theorem dX8_performAll_141 : decode cX8_performAll 141 = .ok (.aload_n 0, 1) := by decide +kernel
theorem dX8_performAll_142 : decode cX8_performAll 142 = .ok (.getfield 40, 3) := by decide +kernel
theorem dX8_performAll_145 : decode cX8_performAll 145 = .ok (.iconst 2, 1) := by decide +kernel
theorem dX8_performAll_146 : decode cX8_performAll 146 = .ok (.iaload, 1) := by decide +kernel
theorem dX8_performAll_147 : decode cX8_performAll 147 = .ok (.aload_n 0, 1) := by decide +kernel
theorem dX8_performAll_148 : decode cX8_performAll 148 = .ok (.getfield 43, 3) := by decide +kernel
theorem dX8_performAll_151 : decode cX8_performAll 151 = .ok (.iconst 2, 1) := by decide +kernel
theorem dX8_performAll_152 : decode cX8_performAll 152 = .ok (.iaload, 1) := by decide +kernel
theorem dX8_performAll_153 : decode cX8_performAll 153 = .ok (.if_icmp .eq 7, 3) := by decide +kernel
theorem dX8_performAll_156 : decode cX8_performAll 156 = .ok (.iconst 1, 1) := by decide +kernel
theorem dX8_performAll_157 : decode cX8_performAll 157 = .ok (.goto 4, 3) := by decide +kernel
theorem dX8_performAll_160 : decode cX8_performAll 160 = .ok (.iconst 0, 1) := by decide +kernel
theorem dX8_performAll_161 : decode cX8_performAll 161 = .ok (.putfield 134, 3) := by decide +kernel
theorem dX8_performAll_164 : decode cX8_performAll 164 = .ok (.return_, 1) := by decide +kernel
set_option maxRecDepth 20000 in
theorem ggX8_readSegment_X8_next : GoodIn wsX8_readSegment wsX8_next := goodIn_r _ [10, 11, 12, 4, 13, 20, 21, 22, 23, 24, 25, 26, 27, 28, 29, 30, 31, 32, 33, 34, 35, 36, 37, 38, 39, 40] (by decide +kernel) (by decide +kernel)
set_option maxRecDepth 20000 in
theorem gX8_readSegment_X8_next : GoodIn wsX8_readSegment (wsV RX8 138 RX8 yX8_next wsX8_next) := goodIn_app (goodIn_of _ (by decide +kernel)) ggX8_readSegment_X8_next
set_option maxRecDepth 20000 in
theorem ggX8_readSegment_X8_nextInteger : GoodIn wsX8_readSegment wsX8_nextInteger := goodIn_r _ [17, 4, 18, 19, 6, 7, 8, 9, 10, 11, 12, 13, 20, 21, 22, 23, 24, 25, 26, 27, 28, 29, 30, 31, 32, 33, 34, 35, 36, 37, 38, 39, 40] (by decide +kernel) (by decide +kernel)
set_option maxRecDepth 20000 in
theorem gX8_readSegment_X8_nextInteger : GoodIn wsX8_readSegment (wsV RX8 161 RX8 yX8_nextInteger wsX8_nextInteger) := goodIn_app (goodIn_of _ (by decide +kernel)) ggX8_readSegment_X8_nextInteger
theorem dX8_readSegment_0 : decode cX8_readSegment 0 = .ok (.aload_n 0, 1) := by decide +kernel
theorem dX8_readSegment_1 : decode cX8_readSegment 1 = .ok (.aload_n 0, 1) := by decide +kernel
theorem dX8_readSegment_2 : decode cX8_readSegment 2 = .ok (.iconst 3, 1) := by decide +kernel
theorem dX8_readSegment_3 : decode cX8_readSegment 3 = .ok (.invokevirtual 138, 3) := by decide +kernel
theorem dX8_readSegment_6 : decode cX8_readSegment 6 = .ok (.putfield 155, 3) := by decide +kernel
theorem dX8_readSegment_9 : decode cX8_readSegment 9 = .ok (.aload_n 0, 1) := by decide +kernel
theorem dX8_readSegment_10 : decode cX8_readSegment 10 = .ok (.iconst 0, 1) := by decide +kernel
theorem dX8_readSegment_11 : decode cX8_readSegment 11 = .ok (.putfield 148, 3) := by decide +kernel
theorem dX8_readSegment_14 : decode cX8_readSegment 14 = .ok (.aload_n 0, 1) := by decide +kernel
theorem dX8_readSegment_15 : decode cX8_readSegment 15 = .ok (.iconst 0, 1) := by decide +kernel
theorem dX8_readSegment_16 : decode cX8_readSegment 16 = .ok (.putfield 158, 3) := by decide +kernel
theorem dX8_readSegment_19 : decode cX8_readSegment 19 = .ok (.aload_n 0, 1) := by decide +kernel
theorem dX8_readSegment_20 : decode cX8_readSegment 20 = .ok (.aload_n 0, 1) := by decide +kernel
theorem dX8_readSegment_21 : decode cX8_readSegment 21 = .ok (.getfield 134, 3) := by decide +kernel
theorem dX8_readSegment_24 : decode cX8_readSegment 24 = .ok (.ifCond .ne 11, 3) := by decide +kernel
theorem dX8_readSegment_27 : decode cX8_readSegment 27 = .ok (.aload_n 0, 1) := by decide +kernel
theorem dX8_readSegment_28 : decode cX8_readSegment 28 = .ok (.getfield 155, 3) := by decide +kernel
theorem dX8_readSegment_31 : decode cX8_readSegment 31 = .ok (.iconst 2, 1) := by decide +kernel
theorem dX8_readSegment_32 : decode cX8_readSegment 32 = .ok (.if_icmp .le 7, 3) := by decide +kernel
theorem dX8_readSegment_35 : decode cX8_readSegment 35 = .ok (.iconst 1, 1) := by decide +kernel
theorem dX8_readSegment_36 : decode cX8_readSegment 36 = .ok (.goto 4, 3) := by decide +kernel
theorem dX8_readSegment_39 : decode cX8_readSegment 39 = .ok (.iconst 0, 1) := by decide +kernel
theorem dX8_readSegment_40 : decode cX8_readSegment 40 = .ok (.putfield 134, 3) := by decide +kernel
theorem dX8_readSegment_43 : decode cX8_readSegment 43 = .ok (.aload_n 0, 1) := by decide +kernel
theorem dX8_readSegment_44 : decode cX8_readSegment 44 = .ok (.getfield 155, 3) := by decide +kernel
theorem dX8_readSegment_47 : decode cX8_readSegment 47 = .ok (.ifCond .le 85, 3) := by decide +kernel
theorem dX8_readSegment_50 : decode cX8_readSegment 50 = .ok (.aload_n 0, 1) := by decide +kernel
theorem dX8_readSegment_51 : decode cX8_readSegment 51 = .ok (.getfield 134, 3) := by decide +kernel
theorem dX8_readSegment_54 : decode cX8_readSegment 54 = .ok (.ifCond .ne 78, 3) := by decide +kernel
theorem dX8_readSegment_57 : decode cX8_readSegment 57 = .ok (.aload_n 0, 1) := by decide +kernel
theorem dX8_readSegment_58 : decode cX8_readSegment 58 = .ok (.aload_n 0, 1) := by decide +kernel
theorem dX8_readSegment_59 : decode cX8_readSegment 59 = .ok (.iconst 3, 1) := by decide +kernel
theorem dX8_readSegment_60 : decode cX8_readSegment 60 = .ok (.invokevirtual 161, 3) := by decide +kernel
theorem dX8_readSegment_63 : decode cX8_readSegment 63 = .ok (.putfield 148, 3) := by decide +kernel
theorem dX8_readSegment_66 : decode cX8_readSegment 66 = .ok (.aload_n 0, 1) := by decide +kernel
theorem dX8_readSegment_67 : decode cX8_readSegment 67 = .ok (.aload_n 0, 1) := by decide +kernel
theorem dX8_readSegment_68 : decode cX8_readSegment 68 = .ok (.iconst 3, 1) := by decide +kernel
theorem dX8_readSegment_69 : decode cX8_readSegment 69 = .ok (.invokevirtual 161, 3) := by decide +kernel
theorem dX8_readSegment_72 : decode cX8_readSegment 72 = .ok (.putfield 158, 3) := by decide +kernel
theorem dX8_readSegment_75 : decode cX8_readSegment 75 = .ok (.aload_n 0, 1) := by decide +kernel
theorem dX8_readSegment_76 : decode cX8_readSegment 76 = .ok (.getfield 148, 3) := by decide +kernel
theorem dX8_readSegment_79 : decode cX8_readSegment 79 = .ok (.i2l, 1) := by decide +kernel
theorem dX8_readSegment_80 : decode cX8_readSegment 80 = .ok (.aload_n 0, 1) := by decide +kernel
theorem dX8_readSegment_81 : decode cX8_readSegment 81 = .ok (.getfield 158, 3) := by decide +kernel
theorem dX8_readSegment_84 : decode cX8_readSegment 84 = .ok (.i2l, 1) := by decide +kernel
theorem dX8_readSegment_85 : decode cX8_readSegment 85 = .ok (.ladd, 1) := by decide +kernel
theorem dX8_readSegment_86 : decode cX8_readSegment 86 = .ok (.lstore_n 1, 1) := by decide +kernel
theorem dX8_readSegment_87 : decode cX8_readSegment 87 = .ok (.aload_n 0, 1) := by decide +kernel
theorem dX8_readSegment_88 : decode cX8_readSegment 88 = .ok (.aload_n 0, 1) := by decide +kernel
theorem dX8_readSegment_89 : decode cX8_readSegment 89 = .ok (.getfield 134, 3) := by decide +kernel
theorem dX8_readSegment_92 : decode cX8_readSegment 92 = .ok (.ifCond .ne 32, 3) := by decide +kernel
theorem dX8_readSegment_95 : decode cX8_readSegment 95 = .ok (.lload_n 1, 1) := by decide +kernel
theorem dX8_readSegment_96 : decode cX8_readSegment 96 = .ok (.aload_n 0, 1) := by decide +kernel
theorem dX8_readSegment_97 : decode cX8_readSegment 97 = .ok (.getfield 155, 3) := by decide +kernel
theorem dX8_readSegment_100 : decode cX8_readSegment 100 = .ok (.iconst 1, 1) := by decide +kernel
theorem dX8_readSegment_101 : decode cX8_readSegment 101 = .ok (.if_icmp .ne 12, 3) := by decide +kernel
theorem dX8_readSegment_104 : decode cX8_readSegment 104 = .ok (.aload_n 0, 1) := by decide +kernel
theorem dX8_readSegment_105 : decode cX8_readSegment 105 = .ok (.getfield 13, 3) := by decide +kernel
theorem dX8_readSegment_108 : decode cX8_readSegment 108 = .ok (.iconst 0, 1) := by decide +kernel
theorem dX8_readSegment_109 : decode cX8_readSegment 109 = .ok (.iaload, 1) := by decide +kernel
theorem dX8_readSegment_110 : decode cX8_readSegment 110 = .ok (.goto 9, 3) := by decide +kernel
theorem dX8_readSegment_113 : decode cX8_readSegment 113 = .ok (.aload_n 0, 1) := by decide +kernel
theorem dX8_readSegment_114 : decode cX8_readSegment 114 = .ok (.getfield 13, 3) := by decide +kernel
theorem dX8_readSegment_117 : decode cX8_readSegment 117 = .ok (.iconst 4, 1) := by decide +kernel
theorem dX8_readSegment_118 : decode cX8_readSegment 118 = .ok (.iaload, 1) := by decide +kernel
theorem dX8_readSegment_119 : decode cX8_readSegment 119 = .ok (.i2l, 1) := by decide +kernel
theorem dX8_readSegment_120 : decode cX8_readSegment 120 = .ok (.lcmp, 1) := by decide +kernel
theorem dX8_readSegment_121 : decode cX8_readSegment 121 = .ok (.ifCond .le 7, 3) := by decide +kernel
theorem dX8_readSegment_124 : decode cX8_readSegment 124 = .ok (.iconst 1, 1) := by decide +kernel
theorem dX8_readSegment_125 : decode cX8_readSegment 125 = .ok (.goto 4, 3) := by decide +kernel
theorem dX8_readSegment_128 : decode cX8_readSegment 128 = .ok (.iconst 0, 1) := by decide +kernel
theorem dX8_readSegment_129 : decode cX8_readSegment 129 = .ok (.putfield 134, 3) := by decide +kernel
theorem dX8_readSegment_132 : decode cX8_readSegment 132 = .ok (.return_, 1) := by decide +kernel
set_option maxRecDepth 20000 in
theorem ggX8_readWindow_X8_readSegment : GoodIn wsX8_readWindow wsX8_readSegment := goodIn_r _ [11, 12, 13, 14, 1, 4, 15, 16, 17, 10, 18, 2, 6, 19, 20, 21, 22, 23, 24, 25, 68, 69, 70, 71, 72, 73, 74, 75, 76, 77, 78, 79, 80, 81, 82, 83, 84, 85, 86, 87, 88] (by decide +kernel) (by decide +kernel)
set_option maxRecDepth 20000 in
theorem gX8_readWindow_X8_readSegment : GoodIn wsX8_readWindow (wsV RX8 179 RX8 yX8_readSegment wsX8_readSegment) := goodIn_app (goodIn_of _ (by decide +kernel)) ggX8_readWindow_X8_readSegment
set_option maxRecDepth 20000 in
theorem ggX8_readWindow_X8_nextInteger : GoodIn wsX8_readWindow wsX8_nextInteger := goodIn_r _ [23, 1, 24, 25, 15, 16, 17, 10, 18, 2, 6, 19, 68, 69, 70, 71, 72, 73, 74, 75, 76, 77, 78, 79, 80, 81, 82, 83, 84, 85, 86, 87, 88] (by decide +kernel) (by decide +kernel)
set_option maxRecDepth 20000 in
theorem gX8_readWindow_X8_nextInteger : GoodIn wsX8_readWindow (wsV RX8 161 RX8 yX8_nextInteger wsX8_nextInteger) := goodIn_app (goodIn_of _ (by decide +kernel)) ggX8_readWindow_X8_nextInteger
set_option maxRecDepth 20000 in
theorem ggX8_readWindow_X8_next : GoodIn wsX8_readWindow wsX8_next := goodIn_r _ [18, 2, 6, 1, 19, 68, 69, 70, 71, 72, 73, 74, 75, 76, 77, 78, 79, 80, 81, 82, 83, 84, 85, 86, 87, 88] (by decide +kernel) (by decide +kernel)
set_option maxRecDepth 20000 in
theorem gX8_readWindow_X8_next : GoodIn wsX8_readWindow (wsV RX8 138 RX8 yX8_next wsX8_next) := goodIn_app (goodIn_of _ (by decide +kernel)) ggX8_readWindow_X8_next
set_option maxRecDepth 20000 in
theorem ggX8_readWindow_X8_forget : GoodIn wsX8_readWindow wsX8_forget := goodIn_r _ [29, 30, 31, 32, 68, 69, 70, 71, 72, 73, 74, 75, 76, 77, 78, 79, 80, 81, 82, 83, 84, 85, 86, 87, 88] (by decide +kernel) (by decide +kernel)
set_option maxRecDepth 20000 in
theorem gX8_readWindow_X8_forget : GoodIn wsX8_readWindow (wsV RX8 113 RX8 yX8_forget wsX8_forget) := goodIn_app (goodIn_of _ (by decide +kernel)) ggX8_readWindow_X8_forget
set_option maxRecDepth 20000 in
theorem ggX8_readWindow_X8_performAll : GoodIn wsX8_readWindow wsX8_performAll := goodIn_r _ [36, 2, 6, 1, 3, 15, 16, 17, 10, 18, 19, 37, 38, 39, 20, 21, 22, 23, 24, 25, 40, 41, 42, 43, 44, 45, 46, 47, 4, 5, 48, 49, 50, 51, 31, 30, 52, 53, 54, 55, 13, 56, 57, 58, 59, 12, 14, 60, 61, 62, 63, 64, 65, 66, 67, 32, 68, 69, 70, 71, 72, 73, 74, 75, 76, 77, 78, 79, 80, 81, 82, 83, 84, 85, 86, 87, 88] (by decide +kernel) (by decide +kernel)
set_option maxRecDepth 20000 in
theorem gX8_readWindow_X8_performAll : GoodIn wsX8_readWindow (wsV RX8 182 RX8 yX8_performAll wsX8_performAll) := goodIn_app (goodIn_of _ (by decide +kernel)) ggX8_readWindow_X8_performAll
theorem dX8_readWindow_0 : decode cX8_readWindow 0 = .ok (.aload_n 0, 1) := by decide +kernel
theorem dX8_readWindow_1 : decode cX8_readWindow 1 = .ok (.invokevirtual 179, 3) := by decide +kernel
theorem dX8_readWindow_4 : decode cX8_readWindow 4 = .ok (.aload_n 0, 1) := by decide +kernel
theorem dX8_readWindow_5 : decode cX8_readWindow 5 = .ok (.getfield 134, 3) := by decide +kernel
theorem dX8_readWindow_8 : decode cX8_readWindow 8 = .ok (.ifCond .eq 6, 3) := by decide +kernel
theorem dX8_readWindow_11 : decode cX8_readWindow 11 = .ok (.bipush (-2), 2) := by decide +kernel
theorem dX8_readWindow_13 : decode cX8_readWindow 13 = .ok (.ireturn, 1) := by decide +kernel
theorem dX8_readWindow_14 : decode cX8_readWindow 14 = .ok (.aload_n 0, 1) := by decide +kernel
theorem dX8_readWindow_15 : decode cX8_readWindow 15 = .ok (.iconst 3, 1) := by decide +kernel
theorem dX8_readWindow_16 : decode cX8_readWindow 16 = .ok (.invokevirtual 161, 3) := by decide +kernel
theorem dX8_readWindow_19 : decode cX8_readWindow 19 = .ok (.istore_n 2, 1) := by decide +kernel
theorem dX8_readWindow_20 : decode cX8_readWindow 20 = .ok (.aload_n 0, 1) := by decide +kernel
theorem dX8_readWindow_21 : decode cX8_readWindow 21 = .ok (.getfield 40, 3) := by decide +kernel
theorem dX8_readWindow_24 : decode cX8_readWindow 24 = .ok (.iconst 3, 1) := by decide +kernel
theorem dX8_readWindow_25 : decode cX8_readWindow 25 = .ok (.iaload, 1) := by decide +kernel
theorem dX8_readWindow_26 : decode cX8_readWindow 26 = .ok (.istore_n 3, 1) := by decide +kernel
theorem dX8_readWindow_27 : decode cX8_readWindow 27 = .ok (.aload_n 0, 1) := by decide +kernel
theorem dX8_readWindow_28 : decode cX8_readWindow 28 = .ok (.aload_n 0, 1) := by decide +kernel
theorem dX8_readWindow_29 : decode cX8_readWindow 29 = .ok (.iconst 3, 1) := by decide +kernel
theorem dX8_readWindow_30 : decode cX8_readWindow 30 = .ok (.invokevirtual 161, 3) := by decide +kernel
theorem dX8_readWindow_33 : decode cX8_readWindow 33 = .ok (.putfield 167, 3) := by decide +kernel
theorem dX8_readWindow_36 : decode cX8_readWindow 36 = .ok (.aload_n 0, 1) := by decide +kernel
theorem dX8_readWindow_37 : decode cX8_readWindow 37 = .ok (.getfield 134, 3) := by decide +kernel
theorem dX8_readWindow_40 : decode cX8_readWindow 40 = .ok (.ifCond .eq 6, 3) := by decide +kernel
theorem dX8_readWindow_43 : decode cX8_readWindow 43 = .ok (.bipush (-2), 2) := by decide +kernel
theorem dX8_readWindow_45 : decode cX8_readWindow 45 = .ok (.ireturn, 1) := by decide +kernel
theorem dX8_readWindow_46 : decode cX8_readWindow 46 = .ok (.aload_n 0, 1) := by decide +kernel
theorem dX8_readWindow_47 : decode cX8_readWindow 47 = .ok (.aload_n 0, 1) := by decide +kernel
theorem dX8_readWindow_48 : decode cX8_readWindow 48 = .ok (.getfield 13, 3) := by decide +kernel
theorem dX8_readWindow_51 : decode cX8_readWindow 51 = .ok (.iconst 4, 1) := by decide +kernel
theorem dX8_readWindow_52 : decode cX8_readWindow 52 = .ok (.iaload, 1) := by decide +kernel
theorem dX8_readWindow_53 : decode cX8_readWindow 53 = .ok (.putfield 145, 3) := by decide +kernel
theorem dX8_readWindow_56 : decode cX8_readWindow 56 = .ok (.aload_n 0, 1) := by decide +kernel
theorem dX8_readWindow_57 : decode cX8_readWindow 57 = .ok (.getfield 145, 3) := by decide +kernel
theorem dX8_readWindow_60 : decode cX8_readWindow 60 = .ok (.i2l, 1) := by decide +kernel
theorem dX8_readWindow_61 : decode cX8_readWindow 61 = .ok (.aload_n 0, 1) := by decide +kernel
theorem dX8_readWindow_62 : decode cX8_readWindow 62 = .ok (.getfield 167, 3) := by decide +kernel
theorem dX8_readWindow_65 : decode cX8_readWindow 65 = .ok (.i2l, 1) := by decide +kernel
theorem dX8_readWindow_66 : decode cX8_readWindow 66 = .ok (.ladd, 1) := by decide +kernel
theorem dX8_readWindow_67 : decode cX8_readWindow 67 = .ok (.iload_n 1, 1) := by decide +kernel
theorem dX8_readWindow_68 : decode cX8_readWindow 68 = .ok (.i2l, 1) := by decide +kernel
theorem dX8_readWindow_69 : decode cX8_readWindow 69 = .ok (.lcmp, 1) := by decide +kernel
theorem dX8_readWindow_70 : decode cX8_readWindow 70 = .ok (.ifCond .le 6, 3) := by decide +kernel
theorem dX8_readWindow_73 : decode cX8_readWindow 73 = .ok (.bipush (-3), 2) := by decide +kernel
theorem dX8_readWindow_75 : decode cX8_readWindow 75 = .ok (.ireturn, 1) := by decide +kernel
theorem dX8_readWindow_76 : decode cX8_readWindow 76 = .ok (.aload_n 0, 1) := by decide +kernel
theorem dX8_readWindow_77 : decode cX8_readWindow 77 = .ok (.iconst 3, 1) := by decide +kernel
theorem dX8_readWindow_78 : decode cX8_readWindow 78 = .ok (.invokevirtual 138, 3) := by decide +kernel
theorem dX8_readWindow_81 : decode cX8_readWindow 81 = .ok (.istore 4, 2) := by decide +kernel
theorem dX8_readWindow_83 : decode cX8_readWindow 83 = .ok (.lconst 0, 1) := by decide +kernel
theorem dX8_readWindow_84 : decode cX8_readWindow 84 = .ok (.lstore 5, 2) := by decide +kernel
theorem dX8_readWindow_86 : decode cX8_readWindow 86 = .ok (.lconst 0, 1) := by decide +kernel
theorem dX8_readWindow_87 : decode cX8_readWindow 87 = .ok (.lstore 7, 2) := by decide +kernel
theorem dX8_readWindow_89 : decode cX8_readWindow 89 = .ok (.aload_n 0, 1) := by decide +kernel
theorem dX8_readWindow_90 : decode cX8_readWindow 90 = .ok (.iconst 3, 1) := by decide +kernel
theorem dX8_readWindow_91 : decode cX8_readWindow 91 = .ok (.invokevirtual 161, 3) := by decide +kernel
theorem dX8_readWindow_94 : decode cX8_readWindow 94 = .ok (.i2l, 1) := by decide +kernel
theorem dX8_readWindow_95 : decode cX8_readWindow 95 = .ok (.lstore 9, 2) := by decide +kernel
theorem dX8_readWindow_97 : decode cX8_readWindow 97 = .ok (.aload_n 0, 1) := by decide +kernel
theorem dX8_readWindow_98 : decode cX8_readWindow 98 = .ok (.iconst 3, 1) := by decide +kernel
theorem dX8_readWindow_99 : decode cX8_readWindow 99 = .ok (.invokevirtual 161, 3) := by decide +kernel
theorem dX8_readWindow_102 : decode cX8_readWindow 102 = .ok (.i2l, 1) := by decide +kernel
theorem dX8_readWindow_103 : decode cX8_readWindow 103 = .ok (.lstore 11, 2) := by decide +kernel
theorem dX8_readWindow_105 : decode cX8_readWindow 105 = .ok (.aload_n 0, 1) := by decide +kernel
theorem dX8_readWindow_106 : decode cX8_readWindow 106 = .ok (.iconst 3, 1) := by decide +kernel
theorem dX8_readWindow_107 : decode cX8_readWindow 107 = .ok (.invokevirtual 161, 3) := by decide +kernel
theorem dX8_readWindow_110 : decode cX8_readWindow 110 = .ok (.i2l, 1) := by decide +kernel
theorem dX8_readWindow_111 : decode cX8_readWindow 111 = .ok (.lstore 13, 2) := by decide +kernel
theorem dX8_readWindow_113 : decode cX8_readWindow 113 = .ok (.lload 9, 2) := by decide +kernel
theorem dX8_readWindow_115 : decode cX8_readWindow 115 = .ok (.lload 11, 2) := by decide +kernel
theorem dX8_readWindow_117 : decode cX8_readWindow 117 = .ok (.ladd, 1) := by decide +kernel
theorem dX8_readWindow_118 : decode cX8_readWindow 118 = .ok (.lload 13, 2) := by decide +kernel
theorem dX8_readWindow_120 : decode cX8_readWindow 120 = .ok (.ladd, 1) := by decide +kernel
theorem dX8_readWindow_121 : decode cX8_readWindow 121 = .ok (.lstore 7, 2) := by decide +kernel
theorem dX8_readWindow_123 : decode cX8_readWindow 123 = .ok (.aload_n 0, 1) := by decide +kernel
theorem dX8_readWindow_124 : decode cX8_readWindow 124 = .ok (.getfield 40, 3) := by decide +kernel
theorem dX8_readWindow_127 : decode cX8_readWindow 127 = .ok (.iconst 3, 1) := by decide +kernel
theorem dX8_readWindow_128 : decode cX8_readWindow 128 = .ok (.iaload, 1) := by decide +kernel
theorem dX8_readWindow_129 : decode cX8_readWindow 129 = .ok (.i2l, 1) := by decide +kernel
theorem dX8_readWindow_130 : decode cX8_readWindow 130 = .ok (.lstore 5, 2) := by decide +kernel
theorem dX8_readWindow_132 : decode cX8_readWindow 132 = .ok (.aload_n 0, 1) := by decide +kernel
theorem dX8_readWindow_133 : decode cX8_readWindow 133 = .ok (.getfield 134, 3) := by decide +kernel
theorem dX8_readWindow_136 : decode cX8_readWindow 136 = .ok (.ifCond .ne 38, 3) := by decide +kernel
theorem dX8_readWindow_139 : decode cX8_readWindow 139 = .ok (.iload 4, 2) := by decide +kernel
theorem dX8_readWindow_141 : decode cX8_readWindow 141 = .ok (.ifCond .ne 33, 3) := by decide +kernel
theorem dX8_readWindow_144 : decode cX8_readWindow 144 = .ok (.iload_n 2, 1) := by decide +kernel
theorem dX8_readWindow_145 : decode cX8_readWindow 145 = .ok (.i2l, 1) := by decide +kernel
theorem dX8_readWindow_146 : decode cX8_readWindow 146 = .ok (.lload 5, 2) := by decide +kernel
theorem dX8_readWindow_148 : decode cX8_readWindow 148 = .ok (.iload_n 3, 1) := by decide +kernel
theorem dX8_readWindow_149 : decode cX8_readWindow 149 = .ok (.i2l, 1) := by decide +kernel
theorem dX8_readWindow_150 : decode cX8_readWindow 150 = .ok (.lsub, 1) := by decide +kernel
theorem dX8_readWindow_151 : decode cX8_readWindow 151 = .ok (.lload 7, 2) := by decide +kernel
theorem dX8_readWindow_153 : decode cX8_readWindow 153 = .ok (.ladd, 1) := by decide +kernel
theorem dX8_readWindow_154 : decode cX8_readWindow 154 = .ok (.lcmp, 1) := by decide +kernel
theorem dX8_readWindow_155 : decode cX8_readWindow 155 = .ok (.ifCond .ne 19, 3) := by decide +kernel
theorem dX8_readWindow_158 : decode cX8_readWindow 158 = .ok (.lload 5, 2) := by decide +kernel
theorem dX8_readWindow_160 : decode cX8_readWindow 160 = .ok (.lload 7, 2) := by decide +kernel
theorem dX8_readWindow_162 : decode cX8_readWindow 162 = .ok (.ladd, 1) := by decide +kernel
theorem dX8_readWindow_163 : decode cX8_readWindow 163 = .ok (.aload_n 0, 1) := by decide +kernel
theorem dX8_readWindow_164 : decode cX8_readWindow 164 = .ok (.getfield 43, 3) := by decide +kernel
theorem dX8_readWindow_167 : decode cX8_readWindow 167 = .ok (.iconst 3, 1) := by decide +kernel
theorem dX8_readWindow_168 : decode cX8_readWindow 168 = .ok (.iaload, 1) := by decide +kernel
theorem dX8_readWindow_169 : decode cX8_readWindow 169 = .ok (.i2l, 1) := by decide +kernel
theorem dX8_readWindow_170 : decode cX8_readWindow 170 = .ok (.lcmp, 1) := by decide +kernel
theorem dX8_readWindow_171 : decode cX8_readWindow 171 = .ok (.ifCond .le 6, 3) := by decide +kernel
theorem dX8_readWindow_174 : decode cX8_readWindow 174 = .ok (.bipush (-2), 2) := by decide +kernel
theorem dX8_readWindow_176 : decode cX8_readWindow 176 = .ok (.ireturn, 1) := by decide +kernel
theorem dX8_readWindow_177 : decode cX8_readWindow 177 = .ok (.aload_n 0, 1) := by decide +kernel
theorem dX8_readWindow_178 : decode cX8_readWindow 178 = .ok (.getfield 40, 3) := by decide +kernel
theorem dX8_readWindow_181 : decode cX8_readWindow 181 = .ok (.iconst 0, 1) := by decide +kernel
theorem dX8_readWindow_182 : decode cX8_readWindow 182 = .ok (.lload 5, 2) := by decide +kernel
theorem dX8_readWindow_184 : decode cX8_readWindow 184 = .ok (.l2i, 1) := by decide +kernel
theorem dX8_readWindow_185 : decode cX8_readWindow 185 = .ok (.iastore, 1) := by decide +kernel
theorem dX8_readWindow_186 : decode cX8_readWindow 186 = .ok (.aload_n 0, 1) := by decide +kernel
theorem dX8_readWindow_187 : decode cX8_readWindow 187 = .ok (.getfield 43, 3) := by decide +kernel
theorem dX8_readWindow_190 : decode cX8_readWindow 190 = .ok (.iconst 0, 1) := by decide +kernel
theorem dX8_readWindow_191 : decode cX8_readWindow 191 = .ok (.lload 5, 2) := by decide +kernel
theorem dX8_readWindow_193 : decode cX8_readWindow 193 = .ok (.lload 9, 2) := by decide +kernel
theorem dX8_readWindow_195 : decode cX8_readWindow 195 = .ok (.ladd, 1) := by decide +kernel
theorem dX8_readWindow_196 : decode cX8_readWindow 196 = .ok (.l2i, 1) := by decide +kernel
theorem dX8_readWindow_197 : decode cX8_readWindow 197 = .ok (.iastore, 1) := by decide +kernel
theorem dX8_readWindow_198 : decode cX8_readWindow 198 = .ok (.aload_n 0, 1) := by decide +kernel
theorem dX8_readWindow_199 : decode cX8_readWindow 199 = .ok (.getfield 40, 3) := by decide +kernel
theorem dX8_readWindow_202 : decode cX8_readWindow 202 = .ok (.iconst 1, 1) := by decide +kernel
theorem dX8_readWindow_203 : decode cX8_readWindow 203 = .ok (.aload_n 0, 1) := by decide +kernel
theorem dX8_readWindow_204 : decode cX8_readWindow 204 = .ok (.getfield 43, 3) := by decide +kernel
theorem dX8_readWindow_207 : decode cX8_readWindow 207 = .ok (.iconst 0, 1) := by decide +kernel
theorem dX8_readWindow_208 : decode cX8_readWindow 208 = .ok (.iaload, 1) := by decide +kernel
theorem dX8_readWindow_209 : decode cX8_readWindow 209 = .ok (.iastore, 1) := by decide +kernel
theorem dX8_readWindow_210 : decode cX8_readWindow 210 = .ok (.aload_n 0, 1) := by decide +kernel
theorem dX8_readWindow_211 : decode cX8_readWindow 211 = .ok (.getfield 43, 3) := by decide +kernel
theorem dX8_readWindow_214 : decode cX8_readWindow 214 = .ok (.iconst 1, 1) := by decide +kernel
theorem dX8_readWindow_215 : decode cX8_readWindow 215 = .ok (.lload 5, 2) := by decide +kernel
theorem dX8_readWindow_217 : decode cX8_readWindow 217 = .ok (.lload 9, 2) := by decide +kernel
theorem dX8_readWindow_219 : decode cX8_readWindow 219 = .ok (.ladd, 1) := by decide +kernel
theorem dX8_readWindow_220 : decode cX8_readWindow 220 = .ok (.lload 11, 2) := by decide +kernel
theorem dX8_readWindow_222 : decode cX8_readWindow 222 = .ok (.ladd, 1) := by decide +kernel
theorem dX8_readWindow_223 : decode cX8_readWindow 223 = .ok (.l2i, 1) := by decide +kernel
theorem dX8_readWindow_224 : decode cX8_readWindow 224 = .ok (.iastore, 1) := by decide +kernel
theorem dX8_readWindow_225 : decode cX8_readWindow 225 = .ok (.aload_n 0, 1) := by decide +kernel
theorem dX8_readWindow_226 : decode cX8_readWindow 226 = .ok (.getfield 40, 3) := by decide +kernel
theorem dX8_readWindow_229 : decode cX8_readWindow 229 = .ok (.iconst 2, 1) := by decide +kernel
theorem dX8_readWindow_230 : decode cX8_readWindow 230 = .ok (.aload_n 0, 1) := by decide +kernel
theorem dX8_readWindow_231 : decode cX8_readWindow 231 = .ok (.getfield 43, 3) := by decide +kernel
theorem dX8_readWindow_234 : decode cX8_readWindow 234 = .ok (.iconst 1, 1) := by decide +kernel
theorem dX8_readWindow_235 : decode cX8_readWindow 235 = .ok (.iaload, 1) := by decide +kernel
theorem dX8_readWindow_236 : decode cX8_readWindow 236 = .ok (.iastore, 1) := by decide +kernel
theorem dX8_readWindow_237 : decode cX8_readWindow 237 = .ok (.aload_n 0, 1) := by decide +kernel
theorem dX8_readWindow_238 : decode cX8_readWindow 238 = .ok (.getfield 43, 3) := by decide +kernel
theorem dX8_readWindow_241 : decode cX8_readWindow 241 = .ok (.iconst 2, 1) := by decide +kernel
theorem dX8_readWindow_242 : decode cX8_readWindow 242 = .ok (.lload 5, 2) := by decide +kernel
theorem dX8_readWindow_244 : decode cX8_readWindow 244 = .ok (.lload 7, 2) := by decide +kernel
theorem dX8_readWindow_246 : decode cX8_readWindow 246 = .ok (.ladd, 1) := by decide +kernel
theorem dX8_readWindow_247 : decode cX8_readWindow 247 = .ok (.l2i, 1) := by decide +kernel
theorem dX8_readWindow_248 : decode cX8_readWindow 248 = .ok (.iastore, 1) := by decide +kernel
theorem dX8_readWindow_249 : decode cX8_readWindow 249 = .ok (.aload_n 0, 1) := by decide +kernel
theorem dX8_readWindow_250 : decode cX8_readWindow 250 = .ok (.getfield 40, 3) := by decide +kernel
theorem dX8_readWindow_253 : decode cX8_readWindow 253 = .ok (.iconst 3, 1) := by decide +kernel
theorem dX8_readWindow_254 : decode cX8_readWindow 254 = .ok (.aload_n 0, 1) := by decide +kernel
theorem dX8_readWindow_255 : decode cX8_readWindow 255 = .ok (.getfield 43, 3) := by decide +kernel
theorem dX8_readWindow_258 : decode cX8_readWindow 258 = .ok (.iconst 2, 1) := by decide +kernel
theorem dX8_readWindow_259 : decode cX8_readWindow 259 = .ok (.iaload, 1) := by decide +kernel
theorem dX8_readWindow_260 : decode cX8_readWindow 260 = .ok (.iastore, 1) := by decide +kernel
theorem dX8_readWindow_261 : decode cX8_readWindow 261 = .ok (.aload_n 0, 1) := by decide +kernel
theorem dX8_readWindow_262 : decode cX8_readWindow 262 = .ok (.invokevirtual 113, 3) := by decide +kernel
theorem dX8_readWindow_265 : decode cX8_readWindow 265 = .ok (.aload_n 0, 1) := by decide +kernel
theorem dX8_readWindow_266 : decode cX8_readWindow 266 = .ok (.invokevirtual 182, 3) := by decide +kernel
theorem dX8_readWindow_269 : decode cX8_readWindow 269 = .ok (.aload_n 0, 1) := by decide +kernel
theorem dX8_readWindow_270 : decode cX8_readWindow 270 = .ok (.getfield 134, 3) := by decide +kernel
theorem dX8_readWindow_273 : decode cX8_readWindow 273 = .ok (.ifCond .eq 8, 3) := by decide +kernel
theorem dX8_readWindow_276 : decode cX8_readWindow 276 = .ok (.bipush (-2), 2) := by decide +kernel
theorem dX8_readWindow_278 : decode cX8_readWindow 278 = .ok (.goto 4, 3) := by decide +kernel
theorem dX8_readWindow_281 : decode cX8_readWindow 281 = .ok (.iconst 0, 1) := by decide +kernel
theorem dX8_readWindow_282 : decode cX8_readWindow 282 = .ok (.ireturn, 1) := by decide +kernel
set_option maxRecDepth 20000 in
theorem ggX8_decode_X8_forget : GoodIn wsX8_decode wsX8_forget := goodIn_r _ [11, 12, 13, 14, 81, 82, 83, 84, 85, 86, 87, 88, 89, 90, 91, 92, 93, 94, 95, 96, 97, 98, 99, 100, 101] (by decide +kernel) (by decide +kernel)
set_option maxRecDepth 20000 in
theorem gX8_decode_X8_forget : GoodIn wsX8_decode (wsV RX8 113 RX8 yX8_forget wsX8_forget) := goodIn_app (goodIn_of _ (by decide +kernel)) ggX8_decode_X8_forget
set_option maxRecDepth 20000 in
theorem ggX8_decode_X8_next : GoodIn wsX8_decode wsX8_next := goodIn_r _ [18, 2, 3, 1, 5, 81, 82, 83, 84, 85, 86, 87, 88, 89, 90, 91, 92, 93, 94, 95, 96, 97, 98, 99, 100, 101] (by decide +kernel) (by decide +kernel)
set_option maxRecDepth 20000 in
theorem gX8_decode_X8_next : GoodIn wsX8_decode (wsV RX8 138 RX8 yX8_next wsX8_next) := goodIn_app (goodIn_of _ (by decide +kernel)) ggX8_decode_X8_next
set_option maxRecDepth 20000 in
theorem ggX8_decode_X8_head : GoodIn wsX8_decode wsX8_head := goodIn_r _ [21] (by decide +kernel) (by decide +kernel)
set_option maxRecDepth 20000 in
theorem gX8_decode_X8_head : GoodIn wsX8_decode (va_wsS RX8 125 yX8_head wsX8_head) := goodIn_app (goodIn_of _ (by decide +kernel)) ggX8_decode_X8_head
set_option maxRecDepth 20000 in
theorem ggX8_decode_X8_readWindow : GoodIn wsX8_decode wsX8_readWindow := goodIn_r _ [25, 1, 2, 26, 4, 27, 3, 28, 29, 30, 10, 31, 32, 33, 34, 15, 16, 17, 18, 5, 35, 36, 37, 38, 39, 40, 7, 8, 9, 11, 12, 13, 14, 41, 42, 43, 44, 45, 46, 47, 48, 49, 50, 51, 52, 53, 54, 55, 56, 57, 58, 59, 60, 61, 62, 63, 64, 65, 66, 67, 68, 69, 70, 71, 72, 73, 74, 75, 81, 82, 83, 84, 85, 86, 87, 88, 89, 90, 91, 92, 93, 94, 95, 96, 97, 98, 99, 100, 101] (by decide +kernel) (by decide +kernel)
set_option maxRecDepth 20000 in
theorem gX8_decode_X8_readWindow : GoodIn wsX8_decode (wsV RX8 185 RX8 yX8_readWindow wsX8_readWindow) := goodIn_app (goodIn_of _ (by decide +kernel)) ggX8_decode_X8_readWindow
set_option maxRecDepth 20000 in
theorem ggX8_decode_X8_show : GoodIn wsX8_decode wsX8_show := goodIn_r _ [79, 80, 12, 13, 81, 82, 83, 84, 85, 86, 87, 88, 89, 90, 91, 92, 93, 94, 95, 96, 97, 98, 99, 100, 101] (by decide +kernel) (by decide +kernel)
set_option maxRecDepth 20000 in
theorem gX8_decode_X8_show : GoodIn wsX8_decode (wsV RX8 131 RX8 yX8_show wsX8_show) := goodIn_app (goodIn_of _ (by decide +kernel)) ggX8_decode_X8_show
theorem dX8_decode_0 : decode cX8_decode 0 = .ok (.iload_n 1, 1) := by decide +kernel
theorem dX8_decode_1 : decode cX8_decode 1 = .ok (.ifCond .lt 10, 3) := by decide +kernel
theorem dX8_decode_4 : decode cX8_decode 4 = .ok (.iload_n 1, 1) := by decide +kernel
theorem dX8_decode_5 : decode cX8_decode 5 = .ok (.sipush 400, 3) := by decide +kernel
theorem dX8_decode_8 : decode cX8_decode 8 = .ok (.if_icmp .le 5, 3) := by decide +kernel
theorem dX8_decode_11 : decode cX8_decode 11 = .ok (.iconst (-1), 1) := by decide +kernel
theorem dX8_decode_12 : decode cX8_decode 12 = .ok (.ireturn, 1) := by decide +kernel
theorem dX8_decode_13 : decode cX8_decode 13 = .ok (.aload_n 0, 1) := by decide +kernel
theorem dX8_decode_14 : decode cX8_decode 14 = .ok (.iconst 0, 1) := by decide +kernel
theorem dX8_decode_15 : decode cX8_decode 15 = .ok (.putfield 134, 3) := by decide +kernel
theorem dX8_decode_18 : decode cX8_decode 18 = .ok (.aload_n 0, 1) := by decide +kernel
theorem dX8_decode_19 : decode cX8_decode 19 = .ok (.getfield 40, 3) := by decide +kernel
theorem dX8_decode_22 : decode cX8_decode 22 = .ok (.iconst 3, 1) := by decide +kernel
theorem dX8_decode_23 : decode cX8_decode 23 = .ok (.iconst 0, 1) := by decide +kernel
theorem dX8_decode_24 : decode cX8_decode 24 = .ok (.iastore, 1) := by decide +kernel
theorem dX8_decode_25 : decode cX8_decode 25 = .ok (.aload_n 0, 1) := by decide +kernel
theorem dX8_decode_26 : decode cX8_decode 26 = .ok (.getfield 43, 3) := by decide +kernel
theorem dX8_decode_29 : decode cX8_decode 29 = .ok (.iconst 3, 1) := by decide +kernel
theorem dX8_decode_30 : decode cX8_decode 30 = .ok (.aload_n 0, 1) := by decide +kernel
theorem dX8_decode_31 : decode cX8_decode 31 = .ok (.getfield 13, 3) := by decide +kernel
theorem dX8_decode_34 : decode cX8_decode 34 = .ok (.iconst 2, 1) := by decide +kernel
theorem dX8_decode_35 : decode cX8_decode 35 = .ok (.iaload, 1) := by decide +kernel
theorem dX8_decode_36 : decode cX8_decode 36 = .ok (.iastore, 1) := by decide +kernel
theorem dX8_decode_37 : decode cX8_decode 37 = .ok (.aload_n 0, 1) := by decide +kernel
theorem dX8_decode_38 : decode cX8_decode 38 = .ok (.getfield 13, 3) := by decide +kernel
theorem dX8_decode_41 : decode cX8_decode 41 = .ok (.iconst 4, 1) := by decide +kernel
theorem dX8_decode_42 : decode cX8_decode 42 = .ok (.iconst 0, 1) := by decide +kernel
theorem dX8_decode_43 : decode cX8_decode 43 = .ok (.iastore, 1) := by decide +kernel
theorem dX8_decode_44 : decode cX8_decode 44 = .ok (.iconst 0, 1) := by decide +kernel
theorem dX8_decode_45 : decode cX8_decode 45 = .ok (.istore_n 2, 1) := by decide +kernel
theorem dX8_decode_46 : decode cX8_decode 46 = .ok (.aload_n 0, 1) := by decide +kernel
theorem dX8_decode_47 : decode cX8_decode 47 = .ok (.invokevirtual 113, 3) := by decide +kernel
theorem dX8_decode_50 : decode cX8_decode 50 = .ok (.iconst 0, 1) := by decide +kernel
theorem dX8_decode_51 : decode cX8_decode 51 = .ok (.istore_n 3, 1) := by decide +kernel
theorem dX8_decode_52 : decode cX8_decode 52 = .ok (.iload_n 3, 1) := by decide +kernel
theorem dX8_decode_53 : decode cX8_decode 53 = .ok (.iconst 5, 1) := by decide +kernel
theorem dX8_decode_54 : decode cX8_decode 54 = .ok (.if_icmp .ge 41, 3) := by decide +kernel
theorem dX8_decode_57 : decode cX8_decode 57 = .ok (.aload_n 0, 1) := by decide +kernel
theorem dX8_decode_58 : decode cX8_decode 58 = .ok (.iconst 3, 1) := by decide +kernel
theorem dX8_decode_59 : decode cX8_decode 59 = .ok (.invokevirtual 138, 3) := by decide +kernel
theorem dX8_decode_62 : decode cX8_decode 62 = .ok (.istore 4, 2) := by decide +kernel
theorem dX8_decode_64 : decode cX8_decode 64 = .ok (.aload_n 0, 1) := by decide +kernel
theorem dX8_decode_65 : decode cX8_decode 65 = .ok (.aload_n 0, 1) := by decide +kernel
theorem dX8_decode_66 : decode cX8_decode 66 = .ok (.getfield 134, 3) := by decide +kernel
theorem dX8_decode_69 : decode cX8_decode 69 = .ok (.ifCond .ne 12, 3) := by decide +kernel
theorem dX8_decode_72 : decode cX8_decode 72 = .ok (.iload 4, 2) := by decide +kernel
theorem dX8_decode_74 : decode cX8_decode 74 = .ok (.iload_n 3, 1) := by decide +kernel
theorem dX8_decode_75 : decode cX8_decode 75 = .ok (.invokestatic 125, 3) := by decide +kernel
theorem dX8_decode_78 : decode cX8_decode 78 = .ok (.if_icmp .eq 7, 3) := by decide +kernel
theorem dX8_decode_81 : decode cX8_decode 81 = .ok (.iconst 1, 1) := by decide +kernel
theorem dX8_decode_82 : decode cX8_decode 82 = .ok (.goto 4, 3) := by decide +kernel
theorem dX8_decode_85 : decode cX8_decode 85 = .ok (.iconst 0, 1) := by decide +kernel
theorem dX8_decode_86 : decode cX8_decode 86 = .ok (.putfield 134, 3) := by decide +kernel
theorem dX8_decode_89 : decode cX8_decode 89 = .ok (.iinc 3 1, 3) := by decide +kernel
theorem dX8_decode_92 : decode cX8_decode 92 = .ok (.goto (-40), 3) := by decide +kernel
theorem dX8_decode_95 : decode cX8_decode 95 = .ok (.aload_n 0, 1) := by decide +kernel
theorem dX8_decode_96 : decode cX8_decode 96 = .ok (.getfield 134, 3) := by decide +kernel
theorem dX8_decode_99 : decode cX8_decode 99 = .ok (.ifCond .eq 8, 3) := by decide +kernel
theorem dX8_decode_102 : decode cX8_decode 102 = .ok (.bipush (-2), 2) := by decide +kernel
theorem dX8_decode_104 : decode cX8_decode 104 = .ok (.goto 4, 3) := by decide +kernel
theorem dX8_decode_107 : decode cX8_decode 107 = .ok (.iconst 0, 1) := by decide +kernel
theorem dX8_decode_108 : decode cX8_decode 108 = .ok (.istore_n 3, 1) := by decide +kernel
theorem dX8_decode_109 : decode cX8_decode 109 = .ok (.iload_n 3, 1) := by decide +kernel
theorem dX8_decode_110 : decode cX8_decode 110 = .ok (.ifCond .ne 30, 3) := by decide +kernel
theorem dX8_decode_113 : decode cX8_decode 113 = .ok (.aload_n 0, 1) := by decide +kernel
theorem dX8_decode_114 : decode cX8_decode 114 = .ok (.getfield 40, 3) := by decide +kernel
theorem dX8_decode_117 : decode cX8_decode 117 = .ok (.iconst 3, 1) := by decide +kernel
theorem dX8_decode_118 : decode cX8_decode 118 = .ok (.iaload, 1) := by decide +kernel
theorem dX8_decode_119 : decode cX8_decode 119 = .ok (.aload_n 0, 1) := by decide +kernel
theorem dX8_decode_120 : decode cX8_decode 120 = .ok (.getfield 43, 3) := by decide +kernel
theorem dX8_decode_123 : decode cX8_decode 123 = .ok (.iconst 3, 1) := by decide +kernel
theorem dX8_decode_124 : decode cX8_decode 124 = .ok (.iaload, 1) := by decide +kernel
theorem dX8_decode_125 : decode cX8_decode 125 = .ok (.if_icmp .ge 15, 3) := by decide +kernel
theorem dX8_decode_128 : decode cX8_decode 128 = .ok (.aload_n 0, 1) := by decide +kernel
theorem dX8_decode_129 : decode cX8_decode 129 = .ok (.iload_n 1, 1) := by decide +kernel
theorem dX8_decode_130 : decode cX8_decode 130 = .ok (.invokevirtual 185, 3) := by decide +kernel
theorem dX8_decode_133 : decode cX8_decode 133 = .ok (.istore_n 3, 1) := by decide +kernel
theorem dX8_decode_134 : decode cX8_decode 134 = .ok (.iinc 2 1, 3) := by decide +kernel
theorem dX8_decode_137 : decode cX8_decode 137 = .ok (.goto (-28), 3) := by decide +kernel
theorem dX8_decode_140 : decode cX8_decode 140 = .ok (.iload_n 3, 1) := by decide +kernel
theorem dX8_decode_141 : decode cX8_decode 141 = .ok (.ifCond .ge 5, 3) := by decide +kernel
theorem dX8_decode_144 : decode cX8_decode 144 = .ok (.iload_n 3, 1) := by decide +kernel
theorem dX8_decode_145 : decode cX8_decode 145 = .ok (.ireturn, 1) := by decide +kernel
theorem dX8_decode_146 : decode cX8_decode 146 = .ok (.iconst 0, 1) := by decide +kernel
theorem dX8_decode_147 : decode cX8_decode 147 = .ok (.istore 4, 2) := by decide +kernel
theorem dX8_decode_149 : decode cX8_decode 149 = .ok (.iload 4, 2) := by decide +kernel
theorem dX8_decode_151 : decode cX8_decode 151 = .ok (.aload_n 0, 1) := by decide +kernel
theorem dX8_decode_152 : decode cX8_decode 152 = .ok (.getfield 13, 3) := by decide +kernel
theorem dX8_decode_155 : decode cX8_decode 155 = .ok (.iconst 4, 1) := by decide +kernel
theorem dX8_decode_156 : decode cX8_decode 156 = .ok (.iaload, 1) := by decide +kernel
theorem dX8_decode_157 : decode cX8_decode 157 = .ok (.if_icmp .ge 31, 3) := by decide +kernel
theorem dX8_decode_160 : decode cX8_decode 160 = .ok (.aload_n 0, 1) := by decide +kernel
theorem dX8_decode_161 : decode cX8_decode 161 = .ok (.getfield 7, 3) := by decide +kernel
theorem dX8_decode_164 : decode cX8_decode 164 = .ok (.sipush 3000, 3) := by decide +kernel
theorem dX8_decode_167 : decode cX8_decode 167 = .ok (.iload 4, 2) := by decide +kernel
theorem dX8_decode_169 : decode cX8_decode 169 = .ok (.iadd, 1) := by decide +kernel
theorem dX8_decode_170 : decode cX8_decode 170 = .ok (.aload_n 0, 1) := by decide +kernel
theorem dX8_decode_171 : decode cX8_decode 171 = .ok (.getfield 7, 3) := by decide +kernel
theorem dX8_decode_174 : decode cX8_decode 174 = .ok (.sipush 4000, 3) := by decide +kernel
theorem dX8_decode_177 : decode cX8_decode 177 = .ok (.iload 4, 2) := by decide +kernel
theorem dX8_decode_179 : decode cX8_decode 179 = .ok (.iadd, 1) := by decide +kernel
theorem dX8_decode_180 : decode cX8_decode 180 = .ok (.iaload, 1) := by decide +kernel
theorem dX8_decode_181 : decode cX8_decode 181 = .ok (.iastore, 1) := by decide +kernel
theorem dX8_decode_182 : decode cX8_decode 182 = .ok (.iinc 4 1, 3) := by decide +kernel
theorem dX8_decode_185 : decode cX8_decode 185 = .ok (.goto (-36), 3) := by decide +kernel
theorem dX8_decode_188 : decode cX8_decode 188 = .ok (.aload_n 0, 1) := by decide +kernel
theorem dX8_decode_189 : decode cX8_decode 189 = .ok (.getfield 13, 3) := by decide +kernel
theorem dX8_decode_192 : decode cX8_decode 192 = .ok (.iconst 3, 1) := by decide +kernel
theorem dX8_decode_193 : decode cX8_decode 193 = .ok (.aload_n 0, 1) := by decide +kernel
theorem dX8_decode_194 : decode cX8_decode 194 = .ok (.getfield 13, 3) := by decide +kernel
theorem dX8_decode_197 : decode cX8_decode 197 = .ok (.iconst 4, 1) := by decide +kernel
theorem dX8_decode_198 : decode cX8_decode 198 = .ok (.iaload, 1) := by decide +kernel
theorem dX8_decode_199 : decode cX8_decode 199 = .ok (.iastore, 1) := by decide +kernel
theorem dX8_decode_200 : decode cX8_decode 200 = .ok (.aload_n 0, 1) := by decide +kernel
theorem dX8_decode_201 : decode cX8_decode 201 = .ok (.iload_n 2, 1) := by decide +kernel
theorem dX8_decode_202 : decode cX8_decode 202 = .ok (.putfield 188, 3) := by decide +kernel
theorem dX8_decode_205 : decode cX8_decode 205 = .ok (.aload_n 0, 1) := by decide +kernel
theorem dX8_decode_206 : decode cX8_decode 206 = .ok (.iconst 1, 1) := by decide +kernel
theorem dX8_decode_207 : decode cX8_decode 207 = .ok (.invokevirtual 131, 3) := by decide +kernel
theorem dX8_decode_210 : decode cX8_decode 210 = .ok (.aload_n 0, 1) := by decide +kernel
theorem dX8_decode_211 : decode cX8_decode 211 = .ok (.getfield 13, 3) := by decide +kernel
theorem dX8_decode_214 : decode cX8_decode 214 = .ok (.iconst 3, 1) := by decide +kernel
theorem dX8_decode_215 : decode cX8_decode 215 = .ok (.iaload, 1) := by decide +kernel
theorem dX8_decode_216 : decode cX8_decode 216 = .ok (.ireturn, 1) := by decide +kernel
theorem dX8_windows_0 : decode cX8_windows 0 = .ok (.aload_n 0, 1) := by decide +kernel
theorem dX8_windows_1 : decode cX8_windows 1 = .ok (.getfield 188, 3) := by decide +kernel
theorem dX8_windows_4 : decode cX8_windows 4 = .ok (.ireturn, 1) := by decide +kernel
theorem dJ9_floorMod_7cf53_0 : decode cJ9_floorMod_7cf53 0 = .ok (.iload_n 0, 1) := by decide +kernel
theorem dJ9_floorMod_7cf53_1 : decode cJ9_floorMod_7cf53 1 = .ok (.iload_n 1, 1) := by decide +kernel
theorem dJ9_floorMod_7cf53_2 : decode cJ9_floorMod_7cf53 2 = .ok (.irem, 1) := by decide +kernel
theorem dJ9_floorMod_7cf53_3 : decode cJ9_floorMod_7cf53 3 = .ok (.istore_n 2, 1) := by decide +kernel
theorem dJ9_floorMod_7cf53_4 : decode cJ9_floorMod_7cf53 4 = .ok (.iload_n 0, 1) := by decide +kernel
theorem dJ9_floorMod_7cf53_5 : decode cJ9_floorMod_7cf53 5 = .ok (.iload_n 1, 1) := by decide +kernel
theorem dJ9_floorMod_7cf53_6 : decode cJ9_floorMod_7cf53 6 = .ok (.ixor, 1) := by decide +kernel
theorem dJ9_floorMod_7cf53_7 : decode cJ9_floorMod_7cf53 7 = .ok (.ifCond .ge 11, 3) := by decide +kernel
theorem dJ9_floorMod_7cf53_10 : decode cJ9_floorMod_7cf53 10 = .ok (.iload_n 2, 1) := by decide +kernel
theorem dJ9_floorMod_7cf53_11 : decode cJ9_floorMod_7cf53 11 = .ok (.ifCond .eq 7, 3) := by decide +kernel
theorem dJ9_floorMod_7cf53_14 : decode cJ9_floorMod_7cf53 14 = .ok (.iload_n 2, 1) := by decide +kernel
theorem dJ9_floorMod_7cf53_15 : decode cJ9_floorMod_7cf53 15 = .ok (.iload_n 1, 1) := by decide +kernel
theorem dJ9_floorMod_7cf53_16 : decode cJ9_floorMod_7cf53 16 = .ok (.iadd, 1) := by decide +kernel
theorem dJ9_floorMod_7cf53_17 : decode cJ9_floorMod_7cf53 17 = .ok (.ireturn, 1) := by decide +kernel
theorem dJ9_floorMod_7cf53_18 : decode cJ9_floorMod_7cf53 18 = .ok (.iload_n 2, 1) := by decide +kernel
theorem dJ9_floorMod_7cf53_19 : decode cJ9_floorMod_7cf53 19 = .ok (.ireturn, 1) := by decide +kernel
theorem dJ9_max_7cf53_0 : decode cJ9_max_7cf53 0 = .ok (.iload_n 0, 1) := by decide +kernel
theorem dJ9_max_7cf53_1 : decode cJ9_max_7cf53 1 = .ok (.iload_n 1, 1) := by decide +kernel
theorem dJ9_max_7cf53_2 : decode cJ9_max_7cf53 2 = .ok (.if_icmp .lt 7, 3) := by decide +kernel
theorem dJ9_max_7cf53_5 : decode cJ9_max_7cf53 5 = .ok (.iload_n 0, 1) := by decide +kernel
theorem dJ9_max_7cf53_6 : decode cJ9_max_7cf53 6 = .ok (.goto 4, 3) := by decide +kernel
theorem dJ9_max_7cf53_9 : decode cJ9_max_7cf53 9 = .ok (.iload_n 1, 1) := by decide +kernel
theorem dJ9_max_7cf53_10 : decode cJ9_max_7cf53 10 = .ok (.ireturn, 1) := by decide +kernel
theorem dJ9_min_7cf53_0 : decode cJ9_min_7cf53 0 = .ok (.iload_n 0, 1) := by decide +kernel
theorem dJ9_min_7cf53_1 : decode cJ9_min_7cf53 1 = .ok (.iload_n 1, 1) := by decide +kernel
theorem dJ9_min_7cf53_2 : decode cJ9_min_7cf53 2 = .ok (.if_icmp .gt 7, 3) := by decide +kernel
theorem dJ9_min_7cf53_5 : decode cJ9_min_7cf53 5 = .ok (.iload_n 0, 1) := by decide +kernel
theorem dJ9_min_7cf53_6 : decode cJ9_min_7cf53 6 = .ok (.goto 4, 3) := by decide +kernel
theorem dJ9_min_7cf53_9 : decode cJ9_min_7cf53 9 = .ok (.iload_n 1, 1) := by decide +kernel
theorem dJ9_min_7cf53_10 : decode cJ9_min_7cf53 10 = .ok (.ireturn, 1) := by decide +kernel
theorem dJ7_fill_53178_0 : decode cJ7_fill_53178 0 = .ok (.iconst 0, 1) := by decide +kernel
theorem dJ7_fill_53178_1 : decode cJ7_fill_53178 1 = .ok (.istore_n 2, 1) := by decide +kernel
theorem dJ7_fill_53178_2 : decode cJ7_fill_53178 2 = .ok (.aload_n 0, 1) := by decide +kernel
theorem dJ7_fill_53178_3 : decode cJ7_fill_53178 3 = .ok (.arraylength, 1) := by decide +kernel
theorem dJ7_fill_53178_4 : decode cJ7_fill_53178 4 = .ok (.istore_n 3, 1) := by decide +kernel
theorem dJ7_fill_53178_5 : decode cJ7_fill_53178 5 = .ok (.iload_n 2, 1) := by decide +kernel
theorem dJ7_fill_53178_6 : decode cJ7_fill_53178 6 = .ok (.iload_n 3, 1) := by decide +kernel
theorem dJ7_fill_53178_7 : decode cJ7_fill_53178 7 = .ok (.if_icmp .ge 13, 3) := by decide +kernel
theorem dJ7_fill_53178_10 : decode cJ7_fill_53178 10 = .ok (.aload_n 0, 1) := by decide +kernel
theorem dJ7_fill_53178_11 : decode cJ7_fill_53178 11 = .ok (.iload_n 2, 1) := by decide +kernel
theorem dJ7_fill_53178_12 : decode cJ7_fill_53178 12 = .ok (.iload_n 1, 1) := by decide +kernel
theorem dJ7_fill_53178_13 : decode cJ7_fill_53178 13 = .ok (.iastore, 1) := by decide +kernel
theorem dJ7_fill_53178_14 : decode cJ7_fill_53178 14 = .ok (.iinc 2 1, 3) := by decide +kernel
theorem dJ7_fill_53178_17 : decode cJ7_fill_53178 17 = .ok (.goto (-12), 3) := by decide +kernel
theorem dJ7_fill_53178_20 : decode cJ7_fill_53178 20 = .ok (.return_, 1) := by decide +kernel
set_option maxRecDepth 20000 in
theorem ggL_law_X7_init : GoodIn wsL_law wsX7_init := goodIn_r _ [8, 9, 10, 11, 12, 13, 14, 15, 16, 17, 18, 19, 20, 21, 22, 23, 24, 25, 26, 27, 28, 29, 30, 31, 32, 33, 34, 35, 36, 37, 38, 39, 40, 41, 42, 43, 44, 45, 46, 47, 48, 49, 50, 51, 52, 53, 54, 55, 56, 57, 58, 59, 60, 61, 62, 63, 64, 65, 66, 67, 68, 69, 70, 71, 72, 73, 74, 75, 76, 77, 78, 79, 80, 81, 82, 83, 84, 85, 86, 87, 88, 89, 90, 91, 92, 93, 94, 95, 96, 97, 98, 99, 100, 101, 102, 103, 104, 105, 106, 107, 663, 664, 634, 635, 636, 637, 638, 639, 640, 641, 665, 666, 667, 668, 669, 670, 671, 672, 673, 674, 675, 676, 677, 678, 679, 680, 681, 682, 683, 684, 685, 686, 687, 688, 689, 690, 691, 692, 693, 694, 695, 696, 697, 698, 699] (by decide +kernel) (by decide +kernel)
set_option maxRecDepth 20000 in
theorem gL_law_X7_init : GoodIn wsL_law (wsX7_init) := ggL_law_X7_init
set_option maxRecDepth 20000 in
theorem ggL_law_X8_init : GoodIn wsL_law wsX8_init := goodIn_r _ [110, 111, 10, 11, 36, 112, 113, 114, 115, 116, 117, 118, 119, 120, 121, 122, 123, 642, 643, 644, 645, 646, 647, 648, 649, 650, 651, 652, 653, 654, 655, 656, 657, 658, 659, 660, 661, 662] (by decide +kernel) (by decide +kernel)
set_option maxRecDepth 20000 in
theorem gL_law_X8_init : GoodIn wsL_law (wsX8_init) := ggL_law_X8_init
set_option maxRecDepth 20000 in
theorem ggL_law_X7_put : GoodIn wsL_law wsX7_put := goodIn_r _ [127, 128, 129, 130, 2, 131, 132, 133, 134, 135, 15, 16, 17, 18, 136, 137, 138, 139, 140, 141, 14, 142, 37, 38, 143, 144, 145, 146, 634, 635, 636, 637, 638, 639, 640, 641, 663, 664] (by decide +kernel) (by decide +kernel)
set_option maxRecDepth 20000 in
theorem gL_law_X7_put : GoodIn wsL_law (wsV RL 13 RX7 yX7_put wsX7_put) := goodIn_app (goodIn_of _ (by decide +kernel)) ggL_law_X7_put
set_option maxRecDepth 20000 in
theorem ggL_law_X8_put : GoodIn wsL_law wsX8_put := goodIn_r _ [150, 113, 151, 152, 5, 153, 154, 155, 156, 157, 158, 159, 160, 112, 642, 643, 644, 645, 646, 647, 648, 649, 650, 651, 652, 653, 654, 655, 656, 657, 658, 659, 660, 661, 662] (by decide +kernel) (by decide +kernel)
set_option maxRecDepth 20000 in
theorem gL_law_X8_put : GoodIn wsL_law (wsV RL 17 RX8 yX8_put wsX8_put) := goodIn_app (goodIn_of _ (by decide +kernel)) ggL_law_X8_put
set_option maxRecDepth 20000 in
theorem ggL_law_X7_cut : GoodIn wsL_law wsX7_cut := goodIn_r _ [164, 128, 129, 130, 2, 131, 132, 133, 134, 135, 15, 16, 17, 18, 165, 166, 167, 14, 168, 38, 169, 170, 171, 172, 634, 635, 636, 637, 638, 639, 640, 641, 663, 664] (by decide +kernel) (by decide +kernel)
set_option maxRecDepth 20000 in
theorem gL_law_X7_cut : GoodIn wsL_law (wsV RL 18 RX7 yX7_cut wsX7_cut) := goodIn_app (goodIn_of _ (by decide +kernel)) ggL_law_X7_cut
set_option maxRecDepth 20000 in
theorem ggL_law_X8_cut : GoodIn wsL_law wsX8_cut := goodIn_r _ [176, 113, 642, 643, 644, 645, 646, 647, 648, 649, 650, 651, 652, 653, 654, 655, 656, 657, 658, 659, 660, 661, 662] (by decide +kernel) (by decide +kernel)
set_option maxRecDepth 20000 in
theorem gL_law_X8_cut : GoodIn wsL_law (wsV RL 22 RX8 yX8_cut wsX8_cut) := goodIn_app (goodIn_of _ (by decide +kernel)) ggL_law_X8_cut
set_option maxRecDepth 20000 in
theorem ggL_law_X7_set : GoodIn wsL_law wsX7_set := goodIn_r _ [180, 128, 129, 130, 2, 131, 132, 133, 134, 135, 15, 16, 17, 18, 165, 166, 167, 14, 168, 38, 136, 137, 138, 181, 182, 183, 184, 37, 634, 635, 636, 637, 638, 639, 640, 641, 663, 664] (by decide +kernel) (by decide +kernel)
set_option maxRecDepth 20000 in
theorem gL_law_X7_set : GoodIn wsL_law (wsV RL 23 RX7 yX7_set wsX7_set) := goodIn_app (goodIn_of _ (by decide +kernel)) ggL_law_X7_set
set_option maxRecDepth 20000 in
theorem ggL_law_X8_set : GoodIn wsL_law wsX8_set := goodIn_r _ [188, 113, 112, 151, 152, 5, 153, 642, 643, 644, 645, 646, 647, 648, 649, 650, 651, 652, 653, 654, 655, 656, 657, 658, 659, 660, 661, 662] (by decide +kernel) (by decide +kernel)
set_option maxRecDepth 20000 in
theorem gL_law_X8_set : GoodIn wsL_law (wsV RL 26 RX8 yX8_set wsX8_set) := goodIn_app (goodIn_of _ (by decide +kernel)) ggL_law_X8_set
set_option maxRecDepth 20000 in
theorem ggL_law_X7_encode : GoodIn wsL_law wsX7_encode := goodIn_r _ [192, 22, 17, 193, 194, 195, 21, 196, 45, 47, 44, 197, 198, 199, 200, 201, 202, 203, 204, 170, 171, 14, 172, 38, 205, 144, 145, 146, 37, 206, 207, 208, 29, 209, 64, 65, 66, 210, 211, 212, 213, 214, 166, 167, 168, 215, 216, 217, 218, 53, 43, 51, 54, 55, 56, 57, 219, 220, 221, 222, 223, 224, 225, 226, 227, 228, 229, 230, 231, 232, 233, 234, 50, 235, 74, 236, 237, 238, 239, 240, 241, 242, 243, 58, 59, 244, 245, 246, 247, 248, 249, 250, 251, 252, 253, 254, 255, 71, 72, 73, 256, 257, 258, 259, 260, 261, 262, 263, 264, 265, 266, 267, 268, 269, 270, 271, 272, 273, 274, 275, 276, 277, 278, 279, 280, 281, 282, 283, 284, 285, 286, 287, 288, 289, 290, 291, 292, 293, 294, 295, 296, 297, 298, 299, 300, 301, 302, 303, 304, 305, 306, 307, 308, 309, 310, 311, 312, 313, 314, 315, 316, 317, 318, 319, 320, 321, 322, 323, 324, 325, 326, 327, 328, 329, 330, 331, 332, 333, 334, 335, 336, 337, 165, 634, 635, 636, 637, 638, 639, 640, 641, 665, 666, 667, 668, 669, 670, 671, 672, 673, 674, 675, 676, 663, 664, 690, 691, 692, 693, 694, 695, 696] (by decide +kernel) (by decide +kernel)
set_option maxRecDepth 20000 in
theorem gL_law_X7_encode : GoodIn wsL_law (wsV RL 27 RX7 yX7_encode wsX7_encode) := goodIn_app (goodIn_of _ (by decide +kernel)) ggL_law_X7_encode
set_option maxRecDepth 20000 in
theorem ggL_law_X8_encode : GoodIn wsL_law wsX8_encode := goodIn_r _ [341, 113, 342, 343, 344, 5, 345, 114, 115, 346, 347, 348, 349, 157, 158, 159, 160, 112, 350, 351, 352, 353, 354, 121, 120, 355, 356, 357, 358, 359, 360, 361, 362, 363, 364, 365, 366, 367, 368, 369, 370, 371, 372, 373, 374, 117, 118, 119, 375, 376, 377, 378, 379, 380, 381, 382, 383, 384, 385, 386, 387, 388, 389, 390, 391, 392, 393, 394, 395, 396, 397, 398, 399, 400, 401, 402, 403, 404, 405, 406, 407, 408, 409, 410, 411, 412, 413, 414, 415, 416, 417, 418, 419, 420, 421, 422, 116, 642, 643, 644, 645, 646, 647, 648, 649, 650, 651, 652, 653, 654, 655, 656, 657, 658, 659, 660, 661, 662] (by decide +kernel) (by decide +kernel)
set_option maxRecDepth 20000 in
theorem gL_law_X8_encode : GoodIn wsL_law (wsV RL 31 RX8 yX8_encode wsX8_encode) := goodIn_app (goodIn_of _ (by decide +kernel)) ggL_law_X8_encode
set_option maxRecDepth 20000 in
theorem ggL_law_X7_decode : GoodIn wsL_law wsX7_decode := goodIn_r _ [426, 26, 18, 30, 31, 427, 428, 429, 25, 430, 82, 84, 92, 88, 431, 170, 171, 14, 172, 38, 432, 207, 208, 29, 209, 64, 65, 66, 210, 211, 212, 213, 433, 434, 435, 87, 436, 104, 437, 198, 199, 200, 438, 202, 203, 105, 106, 439, 440, 441, 442, 443, 444, 445, 446, 447, 448, 449, 450, 451, 452, 453, 454, 96, 97, 455, 456, 457, 458, 80, 93, 94, 95, 459, 460, 461, 462, 463, 464, 465, 466, 166, 167, 168, 467, 468, 469, 470, 471, 472, 473, 474, 89, 90, 91, 475, 476, 477, 478, 479, 480, 481, 482, 483, 318, 305, 319, 320, 321, 322, 323, 324, 325, 326, 327, 328, 484, 485, 486, 487, 488, 144, 145, 146, 37, 489, 490, 491, 492, 493, 494, 495, 496, 497, 498, 265, 266, 267, 499, 500, 501, 502, 503, 504, 505, 506, 507, 508, 509, 510, 511, 512, 513, 514, 515, 229, 230, 231, 516, 282, 283, 284, 285, 261, 262, 263, 517, 220, 221, 222, 223, 224, 225, 226, 227, 518, 519, 520, 521, 522, 523, 524, 525, 634, 635, 636, 637, 638, 639, 640, 641, 677, 678, 679, 680, 681, 682, 683, 684, 685, 686, 687, 688, 689, 663, 664, 690, 691, 692, 697, 698, 699] (by decide +kernel) (by decide +kernel)
set_option maxRecDepth 20000 in
theorem gL_law_X7_decode : GoodIn wsL_law (wsV RL 32 RX7 yX7_decode wsX7_decode) := goodIn_app (goodIn_of _ (by decide +kernel)) ggL_law_X7_decode
set_option maxRecDepth 20000 in
theorem ggL_law_X8_decode : GoodIn wsL_law wsX8_decode := goodIn_r _ [529, 530, 122, 123, 113, 112, 531, 342, 343, 344, 5, 345, 114, 115, 346, 532, 533, 534, 535, 347, 348, 349, 536, 537, 538, 539, 540, 541, 542, 543, 544, 545, 546, 547, 548, 549, 550, 551, 552, 553, 554, 555, 556, 557, 558, 412, 413, 414, 559, 560, 561, 562, 563, 564, 565, 566, 567, 568, 569, 570, 571, 572, 573, 574, 575, 576, 577, 578, 157, 158, 159, 160, 397, 398, 399, 400, 419, 420, 421, 422, 116, 642, 643, 644, 645, 646, 647, 648, 649, 650, 651, 652, 653, 654, 655, 656, 657, 658, 659, 660, 661, 662] (by decide +kernel) (by decide +kernel)
set_option maxRecDepth 20000 in
theorem gL_law_X8_decode : GoodIn wsL_law (wsV RL 35 RX8 yX8_decode wsX8_decode) := goodIn_app (goodIn_of _ (by decide +kernel)) ggL_law_X8_decode
set_option maxRecDepth 20000 in
theorem ggL_law_X7_length : GoodIn wsL_law wsX7_length := goodIn_r _ [582, 132, 133, 134, 2, 135, 15, 16, 17, 18, 165, 166, 167, 14, 168, 38, 634, 635, 636, 637, 638, 639, 640, 641, 663, 664] (by decide +kernel) (by decide +kernel)
set_option maxRecDepth 20000 in
theorem gL_law_X7_length : GoodIn wsL_law (wsV RL 36 RX7 yX7_length wsX7_length) := goodIn_app (goodIn_of _ (by decide +kernel)) ggL_law_X7_length
set_option maxRecDepth 20000 in
theorem ggL_law_X8_length : GoodIn wsL_law wsX8_length := goodIn_r _ [586, 113, 642, 643, 644, 645, 646, 647, 648, 649, 650, 651, 652, 653, 654, 655, 656, 657, 658, 659, 660, 661, 662] (by decide +kernel) (by decide +kernel)
set_option maxRecDepth 20000 in
theorem gL_law_X8_length : GoodIn wsL_law (wsV RL 39 RX8 yX8_length wsX8_length) := goodIn_app (goodIn_of _ (by decide +kernel)) ggL_law_X8_length
set_option maxRecDepth 20000 in
theorem ggL_law_X7_byteAt : GoodIn wsL_law wsX7_byteAt := goodIn_r _ [590, 132, 133, 134, 2, 135, 15, 16, 17, 18, 165, 166, 167, 14, 168, 38, 591, 229, 230, 231, 37, 634, 635, 636, 637, 638, 639, 640, 641, 663, 664] (by decide +kernel) (by decide +kernel)
set_option maxRecDepth 20000 in
theorem gL_law_X7_byteAt : GoodIn wsL_law (wsV RL 40 RX7 yX7_byteAt wsX7_byteAt) := goodIn_app (goodIn_of _ (by decide +kernel)) ggL_law_X7_byteAt
set_option maxRecDepth 20000 in
theorem ggL_law_X8_byteAt : GoodIn wsL_law wsX8_byteAt := goodIn_r _ [595, 113, 112, 642, 643, 644, 645, 646, 647, 648, 649, 650, 651, 652, 653, 654, 655, 656, 657, 658, 659, 660, 661, 662] (by decide +kernel) (by decide +kernel)
set_option maxRecDepth 20000 in
theorem gL_law_X8_byteAt : GoodIn wsL_law (wsV RL 44 RX8 yX8_byteAt wsX8_byteAt) := goodIn_app (goodIn_of _ (by decide +kernel)) ggL_law_X8_byteAt
set_option maxRecDepth 20000 in
theorem ggL_law_X7_code : GoodIn wsL_law wsX7_code := goodIn_r _ [599, 600, 318, 305, 319, 320, 321, 322, 323, 324, 325, 326, 327, 328] (by decide +kernel) (by decide +kernel)
set_option maxRecDepth 20000 in
theorem gL_law_X7_code : GoodIn wsL_law (wsV RL 45 RX7 yX7_code wsX7_code) := goodIn_app (goodIn_of _ (by decide +kernel)) ggL_law_X7_code
set_option maxRecDepth 20000 in
theorem ggL_law_X8_code : GoodIn wsL_law wsX8_code := goodIn_r _ [604, 151, 152, 5, 153, 412, 413, 414] (by decide +kernel) (by decide +kernel)
set_option maxRecDepth 20000 in
theorem gL_law_X8_code : GoodIn wsL_law (wsV RL 48 RX8 yX8_code wsX8_code) := goodIn_app (goodIn_of _ (by decide +kernel)) ggL_law_X8_code
set_option maxRecDepth 20000 in
theorem ggL_law_X7_cache : GoodIn wsL_law wsX7_cache := goodIn_r _ [608, 22, 30, 609, 610, 611, 29, 612, 64, 613, 265, 266, 267, 65, 634, 635, 636, 637, 638, 639, 640, 641, 665, 666, 667, 668, 669, 670, 671, 672, 673, 674, 675, 676, 690, 691, 692] (by decide +kernel) (by decide +kernel)
set_option maxRecDepth 20000 in
theorem gL_law_X7_cache : GoodIn wsL_law (wsV RL 49 RX7 yX7_cache wsX7_cache) := goodIn_app (goodIn_of _ (by decide +kernel)) ggL_law_X7_cache
set_option maxRecDepth 20000 in
theorem ggL_law_X8_cache : GoodIn wsL_law wsX8_cache := goodIn_r _ [617, 116, 642, 643, 644, 645, 646, 647, 648, 649, 650, 651, 652, 653, 654, 655, 656, 657, 658, 659, 660, 661, 662] (by decide +kernel) (by decide +kernel)
set_option maxRecDepth 20000 in
theorem gL_law_X8_cache : GoodIn wsL_law (wsV RL 52 RX8 yX8_cache wsX8_cache) := goodIn_app (goodIn_of _ (by decide +kernel)) ggL_law_X8_cache
set_option maxRecDepth 20000 in
theorem ggL_law_X7_windows : GoodIn wsL_law wsX7_windows := goodIn_r _ [621, 31, 634, 635, 636, 637, 638, 639, 640, 641] (by decide +kernel) (by decide +kernel)
set_option maxRecDepth 20000 in
theorem gL_law_X7_windows : GoodIn wsL_law (wsV RL 53 RX7 yX7_windows wsX7_windows) := goodIn_app (goodIn_of _ (by decide +kernel)) ggL_law_X7_windows
set_option maxRecDepth 20000 in
theorem ggL_law_X8_windows : GoodIn wsL_law wsX8_windows := goodIn_r _ [625, 531, 642, 643, 644, 645, 646, 647, 648, 649, 650, 651, 652, 653, 654, 655, 656, 657, 658, 659, 660, 661, 662] (by decide +kernel) (by decide +kernel)
set_option maxRecDepth 20000 in
theorem gL_law_X8_windows : GoodIn wsL_law (wsV RL 57 RX8 yX8_windows wsX8_windows) := goodIn_app (goodIn_of _ (by decide +kernel)) ggL_law_X8_windows
set_option maxRecDepth 20000 in
theorem ggL_law_X7_agrees : GoodIn wsL_law wsX7_agrees := goodIn_r _ [629, 18, 16, 165, 166, 167, 14, 168, 38, 591, 229, 230, 231, 37, 634, 635, 636, 637, 638, 639, 640, 641, 663, 664] (by decide +kernel) (by decide +kernel)
set_option maxRecDepth 20000 in
theorem gL_law_X7_agrees : GoodIn wsL_law (wsV RL 58 RX7 yX7_agrees wsX7_agrees) := goodIn_app (goodIn_of _ (by decide +kernel)) ggL_law_X7_agrees
set_option maxRecDepth 20000 in
theorem ggL_law_X8_agrees : GoodIn wsL_law wsX8_agrees := goodIn_r _ [633, 113, 112, 642, 643, 644, 645, 646, 647, 648, 649, 650, 651, 652, 653, 654, 655, 656, 657, 658, 659, 660, 661, 662] (by decide +kernel) (by decide +kernel)
end
section
set_option maxRecDepth 20000 in
theorem gL_law_X8_agrees : GoodIn wsL_law (wsV RL 62 RX8 yX8_agrees wsX8_agrees) := goodIn_app (goodIn_of _ (by decide +kernel)) ggL_law_X8_agrees
theorem dL_law_0 : decode cL_law 0 = .ok (.new 7, 3) := by decide +kernel
theorem dL_law_3 : decode cL_law 3 = .ok (.dup, 1) := by decide +kernel
theorem dL_law_4 : decode cL_law 4 = .ok (.invokespecial 9, 3) := by decide +kernel
theorem dL_law_7 : decode cL_law 7 = .ok (.astore_n 1, 1) := by decide +kernel
theorem dL_law_8 : decode cL_law 8 = .ok (.new 10, 3) := by decide +kernel
theorem dL_law_11 : decode cL_law 11 = .ok (.dup, 1) := by decide +kernel
theorem dL_law_12 : decode cL_law 12 = .ok (.invokespecial 12, 3) := by decide +kernel
theorem dL_law_15 : decode cL_law 15 = .ok (.astore_n 2, 1) := by decide +kernel
theorem dL_law_16 : decode cL_law 16 = .ok (.iconst 0, 1) := by decide +kernel
theorem dL_law_17 : decode cL_law 17 = .ok (.istore_n 3, 1) := by decide +kernel
theorem dL_law_18 : decode cL_law 18 = .ok (.iload_n 3, 1) := by decide +kernel
theorem dL_law_19 : decode cL_law 19 = .ok (.aload_n 0, 1) := by decide +kernel
theorem dL_law_20 : decode cL_law 20 = .ok (.arraylength, 1) := by decide +kernel
theorem dL_law_21 : decode cL_law 21 = .ok (.iconst 4, 1) := by decide +kernel
theorem dL_law_22 : decode cL_law 22 = .ok (.isub, 1) := by decide +kernel
theorem dL_law_23 : decode cL_law 23 = .ok (.if_icmp .gt 388, 3) := by decide +kernel
theorem dL_law_26 : decode cL_law 26 = .ok (.aload_n 0, 1) := by decide +kernel
theorem dL_law_27 : decode cL_law 27 = .ok (.iload_n 3, 1) := by decide +kernel
theorem dL_law_28 : decode cL_law 28 = .ok (.iaload, 1) := by decide +kernel
theorem dL_law_29 : decode cL_law 29 = .ok (.bipush 15, 2) := by decide +kernel
theorem dL_law_31 : decode cL_law 31 = .ok (.iand, 1) := by decide +kernel
theorem dL_law_32 : decode cL_law 32 = .ok (.tableswitch 373 0 10 #[60, 103, 136, 179, 202, 225, 248, 281, 314, 347, 360], 60) := by decide +kernel
theorem dL_law_92 : decode cL_law 92 = .ok (.aload_n 1, 1) := by decide +kernel
theorem dL_law_93 : decode cL_law 93 = .ok (.aload_n 0, 1) := by decide +kernel
theorem dL_law_94 : decode cL_law 94 = .ok (.iload_n 3, 1) := by decide +kernel
theorem dL_law_95 : decode cL_law 95 = .ok (.iconst 1, 1) := by decide +kernel
theorem dL_law_96 : decode cL_law 96 = .ok (.iadd, 1) := by decide +kernel
theorem dL_law_97 : decode cL_law 97 = .ok (.iaload, 1) := by decide +kernel
theorem dL_law_98 : decode cL_law 98 = .ok (.aload_n 0, 1) := by decide +kernel
theorem dL_law_99 : decode cL_law 99 = .ok (.iload_n 3, 1) := by decide +kernel
theorem dL_law_100 : decode cL_law 100 = .ok (.iconst 2, 1) := by decide +kernel
theorem dL_law_101 : decode cL_law 101 = .ok (.iadd, 1) := by decide +kernel
theorem dL_law_102 : decode cL_law 102 = .ok (.iaload, 1) := by decide +kernel
theorem dL_law_103 : decode cL_law 103 = .ok (.aload_n 0, 1) := by decide +kernel
theorem dL_law_104 : decode cL_law 104 = .ok (.iload_n 3, 1) := by decide +kernel
theorem dL_law_105 : decode cL_law 105 = .ok (.iconst 3, 1) := by decide +kernel
theorem dL_law_106 : decode cL_law 106 = .ok (.iadd, 1) := by decide +kernel
theorem dL_law_107 : decode cL_law 107 = .ok (.iaload, 1) := by decide +kernel
theorem dL_law_108 : decode cL_law 108 = .ok (.invokevirtual 13, 3) := by decide +kernel
theorem dL_law_111 : decode cL_law 111 = .ok (.aload_n 2, 1) := by decide +kernel
theorem dL_law_112 : decode cL_law 112 = .ok (.aload_n 0, 1) := by decide +kernel
theorem dL_law_113 : decode cL_law 113 = .ok (.iload_n 3, 1) := by decide +kernel
theorem dL_law_114 : decode cL_law 114 = .ok (.iconst 1, 1) := by decide +kernel
theorem dL_law_115 : decode cL_law 115 = .ok (.iadd, 1) := by decide +kernel
theorem dL_law_116 : decode cL_law 116 = .ok (.iaload, 1) := by decide +kernel
theorem dL_law_117 : decode cL_law 117 = .ok (.aload_n 0, 1) := by decide +kernel
theorem dL_law_118 : decode cL_law 118 = .ok (.iload_n 3, 1) := by decide +kernel
theorem dL_law_119 : decode cL_law 119 = .ok (.iconst 2, 1) := by decide +kernel
theorem dL_law_120 : decode cL_law 120 = .ok (.iadd, 1) := by decide +kernel
theorem dL_law_121 : decode cL_law 121 = .ok (.iaload, 1) := by decide +kernel
theorem dL_law_122 : decode cL_law 122 = .ok (.aload_n 0, 1) := by decide +kernel
theorem dL_law_123 : decode cL_law 123 = .ok (.iload_n 3, 1) := by decide +kernel
theorem dL_law_124 : decode cL_law 124 = .ok (.iconst 3, 1) := by decide +kernel
theorem dL_law_125 : decode cL_law 125 = .ok (.iadd, 1) := by decide +kernel
theorem dL_law_126 : decode cL_law 126 = .ok (.iaload, 1) := by decide +kernel
theorem dL_law_127 : decode cL_law 127 = .ok (.invokevirtual 17, 3) := by decide +kernel
theorem dL_law_130 : decode cL_law 130 = .ok (.if_icmp .eq 275, 3) := by decide +kernel
theorem dL_law_133 : decode cL_law 133 = .ok (.iconst 0, 1) := by decide +kernel
theorem dL_law_134 : decode cL_law 134 = .ok (.ireturn, 1) := by decide +kernel
theorem dL_law_135 : decode cL_law 135 = .ok (.aload_n 1, 1) := by decide +kernel
theorem dL_law_136 : decode cL_law 136 = .ok (.aload_n 0, 1) := by decide +kernel
theorem dL_law_137 : decode cL_law 137 = .ok (.iload_n 3, 1) := by decide +kernel
theorem dL_law_138 : decode cL_law 138 = .ok (.iconst 1, 1) := by decide +kernel
theorem dL_law_139 : decode cL_law 139 = .ok (.iadd, 1) := by decide +kernel
theorem dL_law_140 : decode cL_law 140 = .ok (.iaload, 1) := by decide +kernel
theorem dL_law_141 : decode cL_law 141 = .ok (.aload_n 0, 1) := by decide +kernel
theorem dL_law_142 : decode cL_law 142 = .ok (.iload_n 3, 1) := by decide +kernel
theorem dL_law_143 : decode cL_law 143 = .ok (.iconst 2, 1) := by decide +kernel
theorem dL_law_144 : decode cL_law 144 = .ok (.iadd, 1) := by decide +kernel
theorem dL_law_145 : decode cL_law 145 = .ok (.iaload, 1) := by decide +kernel
theorem dL_law_146 : decode cL_law 146 = .ok (.invokevirtual 18, 3) := by decide +kernel
theorem dL_law_149 : decode cL_law 149 = .ok (.aload_n 2, 1) := by decide +kernel
theorem dL_law_150 : decode cL_law 150 = .ok (.aload_n 0, 1) := by decide +kernel
theorem dL_law_151 : decode cL_law 151 = .ok (.iload_n 3, 1) := by decide +kernel
theorem dL_law_152 : decode cL_law 152 = .ok (.iconst 1, 1) := by decide +kernel
theorem dL_law_153 : decode cL_law 153 = .ok (.iadd, 1) := by decide +kernel
theorem dL_law_154 : decode cL_law 154 = .ok (.iaload, 1) := by decide +kernel
theorem dL_law_155 : decode cL_law 155 = .ok (.aload_n 0, 1) := by decide +kernel
theorem dL_law_156 : decode cL_law 156 = .ok (.iload_n 3, 1) := by decide +kernel
theorem dL_law_157 : decode cL_law 157 = .ok (.iconst 2, 1) := by decide +kernel
theorem dL_law_158 : decode cL_law 158 = .ok (.iadd, 1) := by decide +kernel
theorem dL_law_159 : decode cL_law 159 = .ok (.iaload, 1) := by decide +kernel
theorem dL_law_160 : decode cL_law 160 = .ok (.invokevirtual 22, 3) := by decide +kernel
theorem dL_law_163 : decode cL_law 163 = .ok (.if_icmp .eq 242, 3) := by decide +kernel
theorem dL_law_166 : decode cL_law 166 = .ok (.iconst 0, 1) := by decide +kernel
theorem dL_law_167 : decode cL_law 167 = .ok (.ireturn, 1) := by decide +kernel
theorem dL_law_168 : decode cL_law 168 = .ok (.aload_n 1, 1) := by decide +kernel
theorem dL_law_169 : decode cL_law 169 = .ok (.aload_n 0, 1) := by decide +kernel
theorem dL_law_170 : decode cL_law 170 = .ok (.iload_n 3, 1) := by decide +kernel
theorem dL_law_171 : decode cL_law 171 = .ok (.iconst 1, 1) := by decide +kernel
theorem dL_law_172 : decode cL_law 172 = .ok (.iadd, 1) := by decide +kernel
theorem dL_law_173 : decode cL_law 173 = .ok (.iaload, 1) := by decide +kernel
theorem dL_law_174 : decode cL_law 174 = .ok (.aload_n 0, 1) := by decide +kernel
theorem dL_law_175 : decode cL_law 175 = .ok (.iload_n 3, 1) := by decide +kernel
theorem dL_law_176 : decode cL_law 176 = .ok (.iconst 2, 1) := by decide +kernel
theorem dL_law_177 : decode cL_law 177 = .ok (.iadd, 1) := by decide +kernel
theorem dL_law_178 : decode cL_law 178 = .ok (.iaload, 1) := by decide +kernel
theorem dL_law_179 : decode cL_law 179 = .ok (.aload_n 0, 1) := by decide +kernel
theorem dL_law_180 : decode cL_law 180 = .ok (.iload_n 3, 1) := by decide +kernel
theorem dL_law_181 : decode cL_law 181 = .ok (.iconst 3, 1) := by decide +kernel
theorem dL_law_182 : decode cL_law 182 = .ok (.iadd, 1) := by decide +kernel
theorem dL_law_183 : decode cL_law 183 = .ok (.iaload, 1) := by decide +kernel
theorem dL_law_184 : decode cL_law 184 = .ok (.invokevirtual 23, 3) := by decide +kernel
theorem dL_law_187 : decode cL_law 187 = .ok (.aload_n 2, 1) := by decide +kernel
theorem dL_law_188 : decode cL_law 188 = .ok (.aload_n 0, 1) := by decide +kernel
theorem dL_law_189 : decode cL_law 189 = .ok (.iload_n 3, 1) := by decide +kernel
theorem dL_law_190 : decode cL_law 190 = .ok (.iconst 1, 1) := by decide +kernel
theorem dL_law_191 : decode cL_law 191 = .ok (.iadd, 1) := by decide +kernel
theorem dL_law_192 : decode cL_law 192 = .ok (.iaload, 1) := by decide +kernel
theorem dL_law_193 : decode cL_law 193 = .ok (.aload_n 0, 1) := by decide +kernel
theorem dL_law_194 : decode cL_law 194 = .ok (.iload_n 3, 1) := by decide +kernel
theorem dL_law_195 : decode cL_law 195 = .ok (.iconst 2, 1) := by decide +kernel
theorem dL_law_196 : decode cL_law 196 = .ok (.iadd, 1) := by decide +kernel
theorem dL_law_197 : decode cL_law 197 = .ok (.iaload, 1) := by decide +kernel
theorem dL_law_198 : decode cL_law 198 = .ok (.aload_n 0, 1) := by decide +kernel
theorem dL_law_199 : decode cL_law 199 = .ok (.iload_n 3, 1) := by decide +kernel
theorem dL_law_200 : decode cL_law 200 = .ok (.iconst 3, 1) := by decide +kernel
theorem dL_law_201 : decode cL_law 201 = .ok (.iadd, 1) := by decide +kernel
theorem dL_law_202 : decode cL_law 202 = .ok (.iaload, 1) := by decide +kernel
theorem dL_law_203 : decode cL_law 203 = .ok (.invokevirtual 26, 3) := by decide +kernel
theorem dL_law_206 : decode cL_law 206 = .ok (.if_icmp .eq 199, 3) := by decide +kernel
theorem dL_law_209 : decode cL_law 209 = .ok (.iconst 0, 1) := by decide +kernel
theorem dL_law_210 : decode cL_law 210 = .ok (.ireturn, 1) := by decide +kernel
theorem dL_law_211 : decode cL_law 211 = .ok (.aload_n 1, 1) := by decide +kernel
theorem dL_law_212 : decode cL_law 212 = .ok (.aload_n 0, 1) := by decide +kernel
theorem dL_law_213 : decode cL_law 213 = .ok (.iload_n 3, 1) := by decide +kernel
theorem dL_law_214 : decode cL_law 214 = .ok (.iconst 1, 1) := by decide +kernel
theorem dL_law_215 : decode cL_law 215 = .ok (.iadd, 1) := by decide +kernel
theorem dL_law_216 : decode cL_law 216 = .ok (.iaload, 1) := by decide +kernel
theorem dL_law_217 : decode cL_law 217 = .ok (.invokevirtual 27, 3) := by decide +kernel
theorem dL_law_220 : decode cL_law 220 = .ok (.aload_n 2, 1) := by decide +kernel
theorem dL_law_221 : decode cL_law 221 = .ok (.aload_n 0, 1) := by decide +kernel
theorem dL_law_222 : decode cL_law 222 = .ok (.iload_n 3, 1) := by decide +kernel
theorem dL_law_223 : decode cL_law 223 = .ok (.iconst 1, 1) := by decide +kernel
theorem dL_law_224 : decode cL_law 224 = .ok (.iadd, 1) := by decide +kernel
theorem dL_law_225 : decode cL_law 225 = .ok (.iaload, 1) := by decide +kernel
theorem dL_law_226 : decode cL_law 226 = .ok (.invokevirtual 31, 3) := by decide +kernel
theorem dL_law_229 : decode cL_law 229 = .ok (.if_icmp .eq 176, 3) := by decide +kernel
theorem dL_law_232 : decode cL_law 232 = .ok (.iconst 0, 1) := by decide +kernel
theorem dL_law_233 : decode cL_law 233 = .ok (.ireturn, 1) := by decide +kernel
theorem dL_law_234 : decode cL_law 234 = .ok (.aload_n 1, 1) := by decide +kernel
theorem dL_law_235 : decode cL_law 235 = .ok (.aload_n 0, 1) := by decide +kernel
theorem dL_law_236 : decode cL_law 236 = .ok (.iload_n 3, 1) := by decide +kernel
theorem dL_law_237 : decode cL_law 237 = .ok (.iconst 1, 1) := by decide +kernel
theorem dL_law_238 : decode cL_law 238 = .ok (.iadd, 1) := by decide +kernel
theorem dL_law_239 : decode cL_law 239 = .ok (.iaload, 1) := by decide +kernel
theorem dL_law_240 : decode cL_law 240 = .ok (.invokevirtual 32, 3) := by decide +kernel
theorem dL_law_243 : decode cL_law 243 = .ok (.aload_n 2, 1) := by decide +kernel
theorem dL_law_244 : decode cL_law 244 = .ok (.aload_n 0, 1) := by decide +kernel
theorem dL_law_245 : decode cL_law 245 = .ok (.iload_n 3, 1) := by decide +kernel
theorem dL_law_246 : decode cL_law 246 = .ok (.iconst 1, 1) := by decide +kernel
theorem dL_law_247 : decode cL_law 247 = .ok (.iadd, 1) := by decide +kernel
theorem dL_law_248 : decode cL_law 248 = .ok (.iaload, 1) := by decide +kernel
theorem dL_law_249 : decode cL_law 249 = .ok (.invokevirtual 35, 3) := by decide +kernel
theorem dL_law_252 : decode cL_law 252 = .ok (.if_icmp .eq 153, 3) := by decide +kernel
theorem dL_law_255 : decode cL_law 255 = .ok (.iconst 0, 1) := by decide +kernel
theorem dL_law_256 : decode cL_law 256 = .ok (.ireturn, 1) := by decide +kernel
theorem dL_law_257 : decode cL_law 257 = .ok (.aload_n 1, 1) := by decide +kernel
theorem dL_law_258 : decode cL_law 258 = .ok (.aload_n 0, 1) := by decide +kernel
theorem dL_law_259 : decode cL_law 259 = .ok (.iload_n 3, 1) := by decide +kernel
theorem dL_law_260 : decode cL_law 260 = .ok (.iconst 1, 1) := by decide +kernel
theorem dL_law_261 : decode cL_law 261 = .ok (.iadd, 1) := by decide +kernel
theorem dL_law_262 : decode cL_law 262 = .ok (.iaload, 1) := by decide +kernel
theorem dL_law_263 : decode cL_law 263 = .ok (.invokevirtual 36, 3) := by decide +kernel
theorem dL_law_266 : decode cL_law 266 = .ok (.aload_n 2, 1) := by decide +kernel
theorem dL_law_267 : decode cL_law 267 = .ok (.aload_n 0, 1) := by decide +kernel
theorem dL_law_268 : decode cL_law 268 = .ok (.iload_n 3, 1) := by decide +kernel
theorem dL_law_269 : decode cL_law 269 = .ok (.iconst 1, 1) := by decide +kernel
theorem dL_law_270 : decode cL_law 270 = .ok (.iadd, 1) := by decide +kernel
theorem dL_law_271 : decode cL_law 271 = .ok (.iaload, 1) := by decide +kernel
theorem dL_law_272 : decode cL_law 272 = .ok (.invokevirtual 39, 3) := by decide +kernel
theorem dL_law_275 : decode cL_law 275 = .ok (.if_icmp .eq 130, 3) := by decide +kernel
theorem dL_law_278 : decode cL_law 278 = .ok (.iconst 0, 1) := by decide +kernel
theorem dL_law_279 : decode cL_law 279 = .ok (.ireturn, 1) := by decide +kernel
theorem dL_law_280 : decode cL_law 280 = .ok (.aload_n 1, 1) := by decide +kernel
theorem dL_law_281 : decode cL_law 281 = .ok (.aload_n 0, 1) := by decide +kernel
theorem dL_law_282 : decode cL_law 282 = .ok (.iload_n 3, 1) := by decide +kernel
theorem dL_law_283 : decode cL_law 283 = .ok (.iconst 1, 1) := by decide +kernel
theorem dL_law_284 : decode cL_law 284 = .ok (.iadd, 1) := by decide +kernel
theorem dL_law_285 : decode cL_law 285 = .ok (.iaload, 1) := by decide +kernel
theorem dL_law_286 : decode cL_law 286 = .ok (.aload_n 0, 1) := by decide +kernel
theorem dL_law_287 : decode cL_law 287 = .ok (.iload_n 3, 1) := by decide +kernel
theorem dL_law_288 : decode cL_law 288 = .ok (.iconst 2, 1) := by decide +kernel
theorem dL_law_289 : decode cL_law 289 = .ok (.iadd, 1) := by decide +kernel
theorem dL_law_290 : decode cL_law 290 = .ok (.iaload, 1) := by decide +kernel
theorem dL_law_291 : decode cL_law 291 = .ok (.invokevirtual 40, 3) := by decide +kernel
theorem dL_law_294 : decode cL_law 294 = .ok (.aload_n 2, 1) := by decide +kernel
theorem dL_law_295 : decode cL_law 295 = .ok (.aload_n 0, 1) := by decide +kernel
theorem dL_law_296 : decode cL_law 296 = .ok (.iload_n 3, 1) := by decide +kernel
theorem dL_law_297 : decode cL_law 297 = .ok (.iconst 1, 1) := by decide +kernel
theorem dL_law_298 : decode cL_law 298 = .ok (.iadd, 1) := by decide +kernel
theorem dL_law_299 : decode cL_law 299 = .ok (.iaload, 1) := by decide +kernel
theorem dL_law_300 : decode cL_law 300 = .ok (.aload_n 0, 1) := by decide +kernel
theorem dL_law_301 : decode cL_law 301 = .ok (.iload_n 3, 1) := by decide +kernel
theorem dL_law_302 : decode cL_law 302 = .ok (.iconst 2, 1) := by decide +kernel
theorem dL_law_303 : decode cL_law 303 = .ok (.iadd, 1) := by decide +kernel
theorem dL_law_304 : decode cL_law 304 = .ok (.iaload, 1) := by decide +kernel
theorem dL_law_305 : decode cL_law 305 = .ok (.invokevirtual 44, 3) := by decide +kernel
theorem dL_law_308 : decode cL_law 308 = .ok (.if_icmp .eq 97, 3) := by decide +kernel
theorem dL_law_311 : decode cL_law 311 = .ok (.iconst 0, 1) := by decide +kernel
theorem dL_law_312 : decode cL_law 312 = .ok (.ireturn, 1) := by decide +kernel
theorem dL_law_313 : decode cL_law 313 = .ok (.aload_n 1, 1) := by decide +kernel
theorem dL_law_314 : decode cL_law 314 = .ok (.aload_n 0, 1) := by decide +kernel
theorem dL_law_315 : decode cL_law 315 = .ok (.iload_n 3, 1) := by decide +kernel
theorem dL_law_316 : decode cL_law 316 = .ok (.iconst 1, 1) := by decide +kernel
theorem dL_law_317 : decode cL_law 317 = .ok (.iadd, 1) := by decide +kernel
theorem dL_law_318 : decode cL_law 318 = .ok (.iaload, 1) := by decide +kernel
theorem dL_law_319 : decode cL_law 319 = .ok (.aload_n 0, 1) := by decide +kernel
theorem dL_law_320 : decode cL_law 320 = .ok (.iload_n 3, 1) := by decide +kernel
theorem dL_law_321 : decode cL_law 321 = .ok (.iconst 2, 1) := by decide +kernel
theorem dL_law_322 : decode cL_law 322 = .ok (.iadd, 1) := by decide +kernel
theorem dL_law_323 : decode cL_law 323 = .ok (.iaload, 1) := by decide +kernel
theorem dL_law_324 : decode cL_law 324 = .ok (.invokevirtual 45, 3) := by decide +kernel
theorem dL_law_327 : decode cL_law 327 = .ok (.aload_n 2, 1) := by decide +kernel
theorem dL_law_328 : decode cL_law 328 = .ok (.aload_n 0, 1) := by decide +kernel
theorem dL_law_329 : decode cL_law 329 = .ok (.iload_n 3, 1) := by decide +kernel
theorem dL_law_330 : decode cL_law 330 = .ok (.iconst 1, 1) := by decide +kernel
theorem dL_law_331 : decode cL_law 331 = .ok (.iadd, 1) := by decide +kernel
theorem dL_law_332 : decode cL_law 332 = .ok (.iaload, 1) := by decide +kernel
theorem dL_law_333 : decode cL_law 333 = .ok (.aload_n 0, 1) := by decide +kernel
theorem dL_law_334 : decode cL_law 334 = .ok (.iload_n 3, 1) := by decide +kernel
theorem dL_law_335 : decode cL_law 335 = .ok (.iconst 2, 1) := by decide +kernel
theorem dL_law_336 : decode cL_law 336 = .ok (.iadd, 1) := by decide +kernel
theorem dL_law_337 : decode cL_law 337 = .ok (.iaload, 1) := by decide +kernel
theorem dL_law_338 : decode cL_law 338 = .ok (.invokevirtual 48, 3) := by decide +kernel
theorem dL_law_341 : decode cL_law 341 = .ok (.if_icmp .eq 64, 3) := by decide +kernel
theorem dL_law_344 : decode cL_law 344 = .ok (.iconst 0, 1) := by decide +kernel
theorem dL_law_345 : decode cL_law 345 = .ok (.ireturn, 1) := by decide +kernel
theorem dL_law_346 : decode cL_law 346 = .ok (.aload_n 1, 1) := by decide +kernel
theorem dL_law_347 : decode cL_law 347 = .ok (.aload_n 0, 1) := by decide +kernel
theorem dL_law_348 : decode cL_law 348 = .ok (.iload_n 3, 1) := by decide +kernel
theorem dL_law_349 : decode cL_law 349 = .ok (.iconst 1, 1) := by decide +kernel
theorem dL_law_350 : decode cL_law 350 = .ok (.iadd, 1) := by decide +kernel
theorem dL_law_351 : decode cL_law 351 = .ok (.iaload, 1) := by decide +kernel
theorem dL_law_352 : decode cL_law 352 = .ok (.aload_n 0, 1) := by decide +kernel
theorem dL_law_353 : decode cL_law 353 = .ok (.iload_n 3, 1) := by decide +kernel
theorem dL_law_354 : decode cL_law 354 = .ok (.iconst 2, 1) := by decide +kernel
theorem dL_law_355 : decode cL_law 355 = .ok (.iadd, 1) := by decide +kernel
theorem dL_law_356 : decode cL_law 356 = .ok (.iaload, 1) := by decide +kernel
theorem dL_law_357 : decode cL_law 357 = .ok (.invokevirtual 49, 3) := by decide +kernel
theorem dL_law_360 : decode cL_law 360 = .ok (.aload_n 2, 1) := by decide +kernel
theorem dL_law_361 : decode cL_law 361 = .ok (.aload_n 0, 1) := by decide +kernel
theorem dL_law_362 : decode cL_law 362 = .ok (.iload_n 3, 1) := by decide +kernel
theorem dL_law_363 : decode cL_law 363 = .ok (.iconst 1, 1) := by decide +kernel
theorem dL_law_364 : decode cL_law 364 = .ok (.iadd, 1) := by decide +kernel
theorem dL_law_365 : decode cL_law 365 = .ok (.iaload, 1) := by decide +kernel
theorem dL_law_366 : decode cL_law 366 = .ok (.aload_n 0, 1) := by decide +kernel
theorem dL_law_367 : decode cL_law 367 = .ok (.iload_n 3, 1) := by decide +kernel
theorem dL_law_368 : decode cL_law 368 = .ok (.iconst 2, 1) := by decide +kernel
theorem dL_law_369 : decode cL_law 369 = .ok (.iadd, 1) := by decide +kernel
theorem dL_law_370 : decode cL_law 370 = .ok (.iaload, 1) := by decide +kernel
theorem dL_law_371 : decode cL_law 371 = .ok (.invokevirtual 52, 3) := by decide +kernel
theorem dL_law_374 : decode cL_law 374 = .ok (.if_icmp .eq 31, 3) := by decide +kernel
theorem dL_law_377 : decode cL_law 377 = .ok (.iconst 0, 1) := by decide +kernel
theorem dL_law_378 : decode cL_law 378 = .ok (.ireturn, 1) := by decide +kernel
theorem dL_law_379 : decode cL_law 379 = .ok (.aload_n 1, 1) := by decide +kernel
theorem dL_law_380 : decode cL_law 380 = .ok (.invokevirtual 53, 3) := by decide +kernel
theorem dL_law_383 : decode cL_law 383 = .ok (.aload_n 2, 1) := by decide +kernel
theorem dL_law_384 : decode cL_law 384 = .ok (.invokevirtual 57, 3) := by decide +kernel
theorem dL_law_387 : decode cL_law 387 = .ok (.if_icmp .eq 18, 3) := by decide +kernel
theorem dL_law_390 : decode cL_law 390 = .ok (.iconst 0, 1) := by decide +kernel
theorem dL_law_391 : decode cL_law 391 = .ok (.ireturn, 1) := by decide +kernel
theorem dL_law_392 : decode cL_law 392 = .ok (.aload_n 1, 1) := by decide +kernel
theorem dL_law_393 : decode cL_law 393 = .ok (.invokevirtual 58, 3) := by decide +kernel
theorem dL_law_396 : decode cL_law 396 = .ok (.aload_n 2, 1) := by decide +kernel
theorem dL_law_397 : decode cL_law 397 = .ok (.invokevirtual 62, 3) := by decide +kernel
theorem dL_law_400 : decode cL_law 400 = .ok (.if_icmp .eq 5, 3) := by decide +kernel
theorem dL_law_403 : decode cL_law 403 = .ok (.iconst 0, 1) := by decide +kernel
theorem dL_law_404 : decode cL_law 404 = .ok (.ireturn, 1) := by decide +kernel
theorem dL_law_405 : decode cL_law 405 = .ok (.iinc 3 4, 3) := by decide +kernel
theorem dL_law_408 : decode cL_law 408 = .ok (.goto (-390), 3) := by decide +kernel
theorem dL_law_411 : decode cL_law 411 = .ok (.iconst 1, 1) := by decide +kernel
theorem dL_law_412 : decode cL_law 412 = .ok (.ireturn, 1) := by decide +kernel
end
section
/-! entries and ends -/
abbrev QI (D : va_G) (below : List Frame) (args : Array Value) (s : State) (A : Nat → Prop) (r : Int32) (ws' : va_W) : State → Prop := MQ below (va_Qi (fun r' (_ : Unit) => r' = r) (kBd D ws') A) args s 0 0 A
abbrev QL (D : va_G) (below : List Frame) (args : Array Value) (s : State) (A : Nat → Prop) (r : Int64) (ws' : va_W) : State → Prop := MQ below (va_Ql (fun r' (_ : Unit) => r' = r) (kBd D ws') A) args s 0 0 A
abbrev QV (D : va_G) (below : List Frame) (args : Array Value) (s : State) (A : Nat → Prop) (ws' : va_W) : State → Prop := MQ below (va_Qv (fun (_ : Unit) => True) (kBd D ws') A) args s 0 0 A
abbrev QR (D : va_G) (below : List Frame) (args : Array Value) (s : State) (A : Nat → Prop) (r : Option Nat) (ws' : va_W) : State → Prop := MQ below (va_Qq (fun r' (_ : Unit) => r' = r) (kBd D ws') A) args s 0 0 A
/-- what holds at a method's entry -/
def EN (p : Program) (s : State) (m : MethodId) (meth : Method) (c : Code) (D : va_G) (av : List Value) (ws : va_W) (tys : List (ClassId × FieldType)) (N : State → Prop) (wd : List Cond) (own : String) (cc : ByteArray) (maxL : Nat) (ret : Option FieldType) (A : Nat → Prop) (ls : Array Slot) : Prop :=
  p.tables.exec = Jvm.exec ∧ c.code = cc ∧ meth.sig.returnType = ret ∧ c.maxLocals = maxL ∧ (∀ w ∈ wd, w.before av.toArray s = true) ∧ s.vm.findClass own = some m.cls ∧ meth.locks = false ∧ va_P D vwCl ws s.heap ∧ va_K D vwCl tys s ∧ va_D A ws ∧ (∀ q : Nat, s.heap.size ≤ q → A q) ∧ N s ∧ A = va_A ws s.heap.size ∧ lv_has ls maxL (lv_args 0 av)
section ENT
variable {l : Launch} {y : MethodName} {wd wd' : List Cond} {rm : Room} {D : va_G} {av : List Value} {ws ws' : va_W} {tys : List (ClassId × FieldType)} {N : State → Prop} {cc : ByteArray} {maxL : Nat} {ret : Option FieldType}
theorem en_of {Qc : Nat → Array Value → State → Outcome → State → Prop} (hy : plainFor y = true) (hw : wd = Cond.code y cc maxL ret :: wd') (hlen : (lg_sl av).length ≤ maxL)
    (body : ∀ (p : Program) (e : Env) (s : State) (m : MethodId) (below : List Frame) (meth : Method) (c : Code) (A : Nat → Prop) (ls : Array Slot), EN p s m meth c D av ws tys N wd y.cls cc maxL ret A ls →
      W p l e (headSpec wd rm).room s m av.toArray below meth c s.heap [] 0 0 (MQ below (Qc s.heap.size) av.toArray s 0 0 (va_A ws s.heap.size)) (F0 m 0 ls [])) (sz : Nat) :
    Met l y wd rm (va_Pc av (kP D ws tys N sz)) (Qc sz) 0 0 (va_A ws sz) := by
  refine va_MetF (cc := cc) (maxL := maxL) (ret := ret) hy hw ?_
  intro p e s m args below meth c s₁ B hml hv
  obtain ⟨rfl, hsz, hP, hK, hD0, hN⟩ := hv
  subst hsz
  have hl := lv_entry av (n := maxL) hlen
  rw [lg_entry_eq]
  generalize (lg_sl av ++ List.replicate (maxL - (lg_sl av).length) Slot.unset).toArray = ls at hl ⊢
  exact body p e s m below meth c _ ls ⟨B.exec, B.bytes, B.returns, hml, atoms_spec (ws := wd) B.pre, findClass_of_methodNamed B.named, B.notSynchronized, hP, hK, hD0.self, fun q h => Or.inr h, hN, rfl, hl⟩
theorem MI.mk {r : Int32} (hy : plainFor y = true) (hw : wd = Cond.code y cc maxL ret :: wd') (hlen : (lg_sl av).length ≤ maxL)
    (body : ∀ (p : Program) (e : Env) (s : State) (m : MethodId) (below : List Frame) (meth : Method) (c : Code) (A : Nat → Prop) (ls : Array Slot), EN p s m meth c D av ws tys N wd y.cls cc maxL ret A ls →
      W p l e (headSpec wd rm).room s m av.toArray below meth c s.heap [] 0 0 (QI D below av.toArray s A r ws') (F0 m 0 ls [])) : MI l y wd rm D av ws tys N r ws' :=
  en_of (Qc := fun sz => va_Qi (fun r' (_ : Unit) => r' = r) (kBd D ws') (va_A ws sz)) hy hw hlen (fun p e s m below meth c A ls h => by have hb := body p e s m below meth c A ls h; obtain rfl := h.2.2.2.2.2.2.2.2.2.2.2.2.1; exact hb)
theorem ML.mk {r : Int64} (hy : plainFor y = true) (hw : wd = Cond.code y cc maxL ret :: wd') (hlen : (lg_sl av).length ≤ maxL)
    (body : ∀ (p : Program) (e : Env) (s : State) (m : MethodId) (below : List Frame) (meth : Method) (c : Code) (A : Nat → Prop) (ls : Array Slot), EN p s m meth c D av ws tys N wd y.cls cc maxL ret A ls →
      W p l e (headSpec wd rm).room s m av.toArray below meth c s.heap [] 0 0 (QL D below av.toArray s A r ws') (F0 m 0 ls [])) : ML l y wd rm D av ws tys N r ws' :=
  en_of (Qc := fun sz => va_Ql (fun r' (_ : Unit) => r' = r) (kBd D ws') (va_A ws sz)) hy hw hlen (fun p e s m below meth c A ls h => by have hb := body p e s m below meth c A ls h; obtain rfl := h.2.2.2.2.2.2.2.2.2.2.2.2.1; exact hb)
theorem MV.mk (hy : plainFor y = true) (hw : wd = Cond.code y cc maxL ret :: wd') (hlen : (lg_sl av).length ≤ maxL)
    (body : ∀ (p : Program) (e : Env) (s : State) (m : MethodId) (below : List Frame) (meth : Method) (c : Code) (A : Nat → Prop) (ls : Array Slot), EN p s m meth c D av ws tys N wd y.cls cc maxL ret A ls →
      W p l e (headSpec wd rm).room s m av.toArray below meth c s.heap [] 0 0 (QV D below av.toArray s A ws') (F0 m 0 ls [])) : MV l y wd rm D av ws tys N ws' :=
  en_of (Qc := fun sz => va_Qv (fun (_ : Unit) => True) (kBd D ws') (va_A ws sz)) hy hw hlen (fun p e s m below meth c A ls h => by have hb := body p e s m below meth c A ls h; obtain rfl := h.2.2.2.2.2.2.2.2.2.2.2.2.1; exact hb)
theorem MR.mk {r : Option Nat} (hy : plainFor y = true) (hw : wd = Cond.code y cc maxL ret :: wd') (hlen : (lg_sl av).length ≤ maxL)
    (body : ∀ (p : Program) (e : Env) (s : State) (m : MethodId) (below : List Frame) (meth : Method) (c : Code) (A : Nat → Prop) (ls : Array Slot), EN p s m meth c D av ws tys N wd y.cls cc maxL ret A ls →
      W p l e (headSpec wd rm).room s m av.toArray below meth c s.heap [] 0 0 (QR D below av.toArray s A r ws') (F0 m 0 ls [])) : MR l y wd rm D av ws tys N r ws' :=
  en_of (Qc := fun sz => va_Qq (fun r' (_ : Unit) => r' = r) (kBd D ws') (va_A ws sz)) hy hw hlen (fun p e s m below meth c A ls h => by have hb := body p e s m below meth c A ls h; obtain rfl := h.2.2.2.2.2.2.2.2.2.2.2.2.1; exact hb)
end ENT
section ENDS
variable {p : Program} {l : Launch} {e : Env} {R : Room} {s : State} {m : MethodId} {args : Array Value} {below : List Frame} {meth : Method} {c : Code} {H : Heap} {locs : List Loc} {D : va_G} {A : Nat → Prop} {ws' : va_W} {ls : Array Slot} {pc : Nat} {cc : ByteArray}
theorem k_retI {r : Int32} (hx : p.tables.exec = Jvm.exec) (hb : c.code = cc) (hr : meth.sig.returnType = some .int) (hlocks : meth.locks = false) (hP : va_P D vwCl ws' H) (hS : va_S A s.heap H locs) (hdg : decode cc pc = .ok (.ireturn, 1)) : W p l e R s m args below meth c H locs 0 0 (QI D below args s A r ws') (F0 m pc ls [.int r]) :=
  W.iret (v := r) hx hb hr (fun t ht hW => ⟨⟨r, (), rfl, rfl, by show va_P D vwCl ws' t.heap; rw [ht]; exact hP⟩, hS.F ht⟩) hS.2.2 hdg
def b01 (v : Int32) : Bool := v == 0 || v == 1
theorem b01_n {v : Int32} (h : b01 v = true) : narrow .boolean (.int v) = .int v := by
  simp only [b01, Bool.or_eq_true, beq_iff_eq] at h
  rcases h with rfl | rfl <;> rfl
theorem k_retZ {r : Int32} (hx : p.tables.exec = Jvm.exec) (hb : c.code = cc) (hr : meth.sig.returnType = some .boolean) (hlocks : meth.locks = false) (hP : va_P D vwCl ws' H) (hS : va_S A s.heap H locs) (h01 : b01 r = true) (hdg : decode cc pc = .ok (.ireturn, 1)) : W p l e R s m args below meth c H locs 0 0 (QI D below args s A r ws') (F0 m pc ls [.int r]) :=
  W.zret (v := r) hx hb hr (b01_n h01) (fun t ht hW => ⟨⟨r, (), rfl, rfl, by show va_P D vwCl ws' t.heap; rw [ht]; exact hP⟩, hS.F ht⟩) hS.2.2 hdg
theorem k_retL {r : Int64} (hx : p.tables.exec = Jvm.exec) (hb : c.code = cc) (hr : meth.sig.returnType = some .long) (hlocks : meth.locks = false) (hP : va_P D vwCl ws' H) (hS : va_S A s.heap H locs) (hdg : decode cc pc = .ok (.lreturn, 1)) : W p l e R s m args below meth c H locs 0 0 (QL D below args s A r ws') (F0 m pc ls [.long r]) :=
  W.lret (v := r) hx hb hr (fun t ht hW => ⟨⟨r, (), rfl, rfl, by show va_P D vwCl ws' t.heap; rw [ht]; exact hP⟩, hS.F ht⟩) hS.2.2 hdg
theorem k_retV (hx : p.tables.exec = Jvm.exec) (hb : c.code = cc) (hr : meth.sig.returnType = none) (hlocks : meth.locks = false) (hP : va_P D vwCl ws' H) (hS : va_S A s.heap H locs) (hdg : decode cc pc = .ok (.return_, 1)) : W p l e R s m args below meth c H locs 0 0 (QV D below args s A ws') (F0 m pc ls []) :=
  W.vret hx hb hr (fun t ht hW => ⟨⟨(), rfl, trivial, by show va_P D vwCl ws' t.heap; rw [ht]; exact hP⟩, hS.F ht⟩) hS.2.2 hdg
theorem k_retR {r : Option Nat} {rt : FieldType} (hx : p.tables.exec = Jvm.exec) (hb : c.code = cc) (hr : meth.sig.returnType = some rt) (hrt : (∃ n, rt = .object n) ∨ ∃ t, rt = .array t) (hlocks : meth.locks = false) (hP : va_P D vwCl ws' H) (hS : va_S A s.heap H locs) (hdg : decode cc pc = .ok (.areturn, 1)) : W p l e R s m args below meth c H locs 0 0 (QR D below args s A r ws') (F0 m pc ls [va_rf r]) :=
  W.aret (v := va_rf r) hx hb hr hrt (va_rf_or r) (fun t ht hW => ⟨⟨r, (), rfl, rfl, by show va_P D vwCl ws' t.heap; rw [ht]; exact hP⟩, hS.F ht⟩) hS.2.2 hdg
end ENDS
/-- the room of a method whose calls go d deep -/
abbrev rmD (d : Nat) : Room := { frames := d, cells := 0, slots := 0, locals := 39 * d }
end
section
/-! THE WORLDS: which cells a method of each class speaks of -/
abbrev wR (h a : Nat) (cA : ClassId) (n : Nat) (f : Nat → Int32) (ct : Int32) : va_W := [(h, .inr (5, [.ref a, .int ct])), (a, .inl (cA, n, .inl f))]
abbrev wRR (h a : Nat) (cA : ClassId) (n : Nat) (h2 a2 : Nat) (cA2 : ClassId) (n2 : Nat) (f : Nat → Int32) (ct : Int32) (f2 : Nat → Int32) (ct2 : Int32) : va_W := [(h, .inr (5, [.ref a, .int ct])), (a, .inl (cA, n, .inl f)), (h2, .inr (5, [.ref a2, .int ct2])), (a2, .inl (cA2, n2, .inl f2))]
abbrev wD (h r a : Nat) (cA : ClassId) (n : Nat) (pl en : Int32) (f : Nat → Int32) (ct : Int32) : va_W := [(h, .inr (4, [.ref r, .int pl, .int en])), (r, .inr (5, [.ref a, .int ct])), (a, .inl (cA, n, .inl f))]
abbrev wC (h an az : Nat) (cN cS : ClassId) (fn fs : Nat → Int32) (cp : Int32) : va_W := [(h, .inr (0, [.ref an, .ref az, .int cp])), (an, .inl (cN, 4, .inl fn)), (az, .inl (cS, 768, .inl fs))]
abbrev wCC (h an az : Nat) (cN cS : ClassId) (h2 an2 az2 : Nat) (cN2 cS2 : ClassId) (fn fs : Nat → Int32) (cp : Int32) (fn2 fs2 : Nat → Int32) (cp2 : Int32) : va_W := [(h, .inr (0, [.ref an, .ref az, .int cp])), (an, .inl (cN, 4, .inl fn)), (az, .inl (cS, 768, .inl fs)), (h2, .inr (0, [.ref an2, .ref az2, .int cp2])), (an2, .inl (cN2, 4, .inl fn2)), (az2, .inl (cS2, 768, .inl fs2))]
abbrev wI (h ak az am : Nat) (cK cZ cM : ClassId) (fk fz fm : Nat → Int32) (ct : Int32) : va_W := [(h, .inr (3, [.ref ak, .ref az, .ref am, .int ct])), (ak, .inl (cK, 64, .inl fk)), (az, .inl (cZ, 64, .inl fz)), (am, .inl (cM, 64, .inl fm))]
abbrev wF (a : Nat) (cA : ClassId) (n : Nat) (f : Nat → Int32) : va_W := [(a, .inl (cA, n, .inl f))]
abbrev wX (q : Nat → Nat) (cA : Nat → ClassId) (sc : Nat → Int32) (ar : Nat → Nat → Int32) (sg : Bool) : va_W := [(q 0, .inr (6, [.ref (q 1), .ref (q 3), .ref (q 5), .ref (q 7), .ref (q 21), .ref (q 22), .ref (q 29), .int (sc 29)])), (q 1, .inr (5, [.ref (q 2), .int (sc 0)])), (q 2, .inl (cA 0, 48, .inl (ar 0))), (q 3, .inr (5, [.ref (q 4), .int (sc 1)])), (q 4, .inl (cA 1, 64, .inl (ar 1))), (q 5, .inr (5, [.ref (q 6), .int (sc 2)])), (q 6, .inl (cA 2, 1000, .inl (ar 2))), (q 7, .inr (5, [.ref (q 8), .int (sc 3)])), (q 8, .inl (cA 3, 400, .inl (ar 3))), (q 9, .inr (5, [.ref (q 10), .int (sc 4)])), (q 10, .inl (cA 4, 112, .inl (ar 4))), (q 11, .inr (5, [.ref (q 12), .int (sc 5)])), (q 12, .inl (cA 5, 64, .inl (ar 5))), (q 13, .inr (5, [.ref (q 14), .int (sc 6)])), (q 14, .inl (cA 6, 128, .inl (ar 6))), (q 15, .inr (5, [.ref (q 16), .int (sc 7)])), (q 16, .inl (cA 7, 64, .inl (ar 7))), (q 17, .inr (5, [.ref (q 18), .int (sc 8)])), (q 18, .inl (cA 8, 320, .inl (ar 8))), (q 19, .inr (5, [.ref (q 20), .int (sc 9)])), (q 20, .inl (cA 9, 400, .inl (ar 9))), (q 21, .inr (2, [.ref (q 1), .ref (q 3), .ref (q 5), .ref (q 23), .ref (q 32), .ref (q 9), .ref (q 11), .ref (q 13), .ref (q 15), .ref (q 17), .int (sc 10), .int (sc 11)])), (q 22, .inr (1, [.ref (q 1), .ref (q 19), .ref (q 26), .ref (q 36), .ref (q 37), .ref (q 38), .ref (q 39), .int (sc 12), .ref (bif sg then q 19 else q 1), .int (sc 13), .int (sc 14), .int (sc 15), .int (sc 16)])), (q 23, .inr (0, [.ref (q 24), .ref (q 25), .int (sc 17)])), (q 24, .inl (cA 10, 4, .inl (ar 10))), (q 25, .inl (cA 11, 768, .inl (ar 11))), (q 26, .inr (0, [.ref (q 27), .ref (q 28), .int (sc 18)])), (q 27, .inl (cA 12, 4, .inl (ar 12))), (q 28, .inl (cA 13, 768, .inl (ar 13))), (q 29, .inr (0, [.ref (q 30), .ref (q 31), .int (sc 19)])), (q 30, .inl (cA 14, 4, .inl (ar 14))), (q 31, .inl (cA 15, 768, .inl (ar 15))), (q 32, .inr (3, [.ref (q 33), .ref (q 34), .ref (q 35), .int (sc 20)])), (q 33, .inl (cA 16, 64, .inl (ar 16))), (q 34, .inl (cA 17, 64, .inl (ar 17))), (q 35, .inl (cA 18, 64, .inl (ar 18))), (q 36, .inr (4, [.ref (q 5), .int (sc 21), .int (sc 22)])), (q 37, .inr (4, [.ref (q 5), .int (sc 23), .int (sc 24)])), (q 38, .inr (4, [.ref (q 5), .int (sc 25), .int (sc 26)])), (q 39, .inr (4, [.ref (q 5), .int (sc 27), .int (sc 28)]))]
abbrev tX (cA : Nat → ClassId) : List (ClassId × FieldType) := [(cA 0, .int), (cA 1, .int), (cA 2, .int), (cA 3, .int), (cA 4, .int), (cA 5, .int), (cA 6, .int), (cA 7, .int), (cA 8, .int), (cA 9, .int), (cA 10, .int), (cA 11, .int), (cA 12, .int), (cA 13, .int), (cA 14, .int), (cA 15, .int), (cA 16, .int), (cA 17, .int), (cA 18, .int)]
abbrev wM (q : Nat → Nat) (cA : Nat → ClassId) (sc : Nat → Int32) (ar : Nat → Nat → Int32) : va_W := [(q 0, .inr (7, [.ref (q 1), .ref (q 2), .int (sc 0), .ref (q 3), .ref (q 4), .int (sc 1), .ref (q 5), .int (sc 2), .ref (q 6), .ref (q 7), .ref (q 8), .ref (q 9), .ref (q 10), .ref (q 11), .ref (q 12), .int (sc 3), .int (sc 4), .int (sc 5), .int (sc 6), .int (sc 7), .int (sc 8)])), (q 1, .inl (cA 0, 5000, .inl (ar 0))), (q 2, .inl (cA 1, 5, .inl (ar 1))), (q 3, .inl (cA 2, 4, .inl (ar 2))), (q 4, .inl (cA 3, 768, .inl (ar 3))), (q 5, .inl (cA 4, 1544, .inl (ar 4))), (q 6, .inl (cA 5, 64, .inl (ar 5))), (q 7, .inl (cA 6, 64, .inl (ar 6))), (q 8, .inl (cA 7, 64, .inl (ar 7))), (q 9, .inl (cA 8, 1200, .inl (ar 8))), (q 10, .inl (cA 9, 3, .inl (ar 9))), (q 11, .inl (cA 10, 4, .inl (ar 10))), (q 12, .inl (cA 11, 4, .inl (ar 11)))]
abbrev tM (cA : Nat → ClassId) : List (ClassId × FieldType) := [(cA 0, .int), (cA 1, .int), (cA 2, .int), (cA 3, .int), (cA 4, .int), (cA 5, .int), (cA 6, .int), (cA 7, .int), (cA 8, .int), (cA 9, .int), (cA 10, .int), (cA 11, .int)]
/-- what a nest mate may touch -/
def NR (U : State) : Prop := va_Nw (.fieldLinkNest RX5 36 RX6 "bytes" "[I" RX7) U ∧ va_Nw (.fieldLinkNest RX5 22 RX6 "count" "I" RX7) U
def NX (U : State) : Prop := NR U ∧ va_Nw (.fieldLinkNest RX7 116 RX3 "caches" "LDeltaWindows$Caches;" RX7) U ∧ va_Nw (.fieldLinkNest RX7 88 RX2 "made" "LDeltaWindows$Row;" RX7) U ∧ va_Nw (.fieldLinkNest RX7 95 RX2 "caches" "LDeltaWindows$Caches;" RX7) U ∧ va_Nw (.fieldLinkNest RX7 101 RX2 "windowsRead" "I" RX7) U ∧ va_Nw (.fieldLinkNest RX3 65 RX7 "HEAD" "[I" RX7) U ∧ va_Nw (.fieldLinkNest RX2 95 RX7 "HEAD" "[I" RX7) U
theorem nw_c {w : Cond} (hw : w.onTables = true) {a : Array Value} {U : State} {g : JFrame} {mk : MethodId} (h : va_Nw w U) : va_Nw w (U.calling g mk a) := va_Nw.same (u := U) (U := U.calling g mk a) hw rfl h
theorem NR_bl : NBl NR := fun _ _ _ _ h => ⟨nw_c rfl h.1, nw_c rfl h.2⟩
theorem NR_w {s U : State} (hW : s.WarmedH U.vm) (h : NR s) : NR U := ⟨va_Nw.warmF hW h.1, va_Nw.warmF hW h.2⟩
theorem NX_bl : NBl NX := fun a U g mk h => ⟨NR_bl a U g mk h.1, nw_c rfl h.2.1, nw_c rfl h.2.2.1, nw_c rfl h.2.2.2.1, nw_c rfl h.2.2.2.2.1, nw_c rfl h.2.2.2.2.2.1, nw_c rfl h.2.2.2.2.2.2⟩
theorem NX_w {s U : State} (hW : s.WarmedH U.vm) (h : NX s) : NX U := ⟨NR_w hW h.1, va_Nw.warmF hW h.2.1, va_Nw.warmF hW h.2.2.1, va_Nw.warmF hW h.2.2.2.1, va_Nw.warmF hW h.2.2.2.2.1, va_Nw.warmF hW h.2.2.2.2.2.1, va_Nw.warmF hW h.2.2.2.2.2.2⟩
def nz (y : Int32) : Bool := !(y == 0)
theorem nz_ne {y : Int32} (h : nz y = true) : ¬ y = 0 := by
  intro e; rw [e] at h; exact absurd h (by decide)
end
section
noncomputable def fJ9_floorMod_7cf53 (x0 : Int32) (x1 : Int32) : Option (Int32) :=
  if nz x1 = true then
  if 0 ≤ (x0 ^^^ x1) then
    some (x0 - x0 / x1 * x1)
  else
    if (x0 - x0 / x1 * x1) = 0 then
      some (x0 - x0 / x1 * x1)
    else
      some ((x0 - x0 / x1 * x1) + x1)
  else none

set_option maxHeartbeats 4000000 in
set_option maxRecDepth 100000 in
theorem kJ9_floorMod_7cf53 (l : Launch) (D : va_G) (x0 : Int32) (x1 : Int32) {R : Int32} (hf : fJ9_floorMod_7cf53 x0 x1 = some R) : MI l yJ9_floorMod_7cf53 wsJ9_floorMod_7cf53 (rmD 0) D ([.int x0, .int x1] : List Value) ([] : va_W) [] NT R ([] : va_W) := by
  refine MI.mk (cc := cJ9_floorMod_7cf53) (maxL := 3) (ret := (some .int)) (by first | decide | decide +kernel) rfl (Nat.le_of_ble_eq_true rfl) ?_
  intro p e s m below meth cd A ls hE
  obtain ⟨hx, hb, hr, hml, hts, hown, hlocks, hP, hK, hD, hA, hN, hAe, hl⟩ := hE
  have hown : s.vm.findClass RJ9 = some m.cls := hown
  have hS : va_S A s.heap s.heap [] := va_S.rf
  have hl : lv_has ls 3 [(0, .int x0), (1, .int x1)] := hl
  rw [fJ9_floorMod_7cf53] at hf
  refine lv_iload_n hx hb dJ9_floorMod_7cf53_0 rfl (lv_at hl 0 rfl) ?_
  refine lv_iload_n hx hb dJ9_floorMod_7cf53_1 rfl (lv_at hl 1 rfl) ?_
  obtain ⟨g1, hf⟩ := g_inv hf
  refine lv_irem hx hb dJ9_floorMod_7cf53_2 (nz_ne g1) ?_
  refine lv_istore_n (lv' := [(2, .int (x0 - x0 / x1 * x1)), (0, .int x0), (1, .int x1)]) hx hb dJ9_floorMod_7cf53_3 rfl hl (by decide) rfl (fun ls hl => ?_)
  refine lv_iload_n hx hb dJ9_floorMod_7cf53_4 rfl (lv_at hl 1 rfl) ?_
  refine lv_iload_n hx hb dJ9_floorMod_7cf53_5 rfl (lv_at hl 2 rfl) ?_
  refine lv_ixor hx hb dJ9_floorMod_7cf53_6 ?_
  refine lv_if_ge (tgt := 18) hx hb dJ9_floorMod_7cf53_7 (by decide) (fun c2 => ?_) (fun c2 => ?_)
  · rw [if_pos c2] at hf
    refine lv_iload_n hx hb dJ9_floorMod_7cf53_18 rfl (lv_at hl 0 rfl) ?_
    obtain rfl := Option.some.inj hf
    exact k_retI hx hb hr hlocks hP hS dJ9_floorMod_7cf53_19
  · rw [if_neg c2] at hf
    refine lv_iload_n hx hb dJ9_floorMod_7cf53_10 rfl (lv_at hl 0 rfl) ?_
    refine lv_if_eq (tgt := 18) hx hb dJ9_floorMod_7cf53_11 (by decide) (fun c3 => ?_) (fun c3 => ?_)
    · rw [if_pos c3] at hf
      refine lv_iload_n hx hb dJ9_floorMod_7cf53_18 rfl (lv_at hl 0 rfl) ?_
      obtain rfl := Option.some.inj hf
      exact k_retI hx hb hr hlocks hP hS dJ9_floorMod_7cf53_19
    · rw [if_neg c3] at hf
      refine lv_iload_n hx hb dJ9_floorMod_7cf53_14 rfl (lv_at hl 0 rfl) ?_
      refine lv_iload_n hx hb dJ9_floorMod_7cf53_15 rfl (lv_at hl 2 rfl) ?_
      refine lv_iadd hx hb dJ9_floorMod_7cf53_16 ?_
      obtain rfl := Option.some.inj hf
      exact k_retI hx hb hr hlocks hP hS dJ9_floorMod_7cf53_17

noncomputable def fJ7_fill_53178_L5 (n : Nat) (v1 : Int32) (v3 : Int32) : Nat → (Int32) → (Nat → Int32) → Option ((Nat → Int32))
  | 0, _, _ => none
  | k + 1, v2, f =>
    if v3 ≤ v2 then
      some f
    else
      if inb v2 n = true then
      fJ7_fill_53178_L5 n v1 v3 k (v2 + (1 : Int32)) (upd f v2.toNatClampNeg v1)
      else none

noncomputable def fJ7_fill_53178 (n : Nat) (f : Nat → Int32) (x1 : Int32) : Option ((Nat → Int32)) :=
  (fJ7_fill_53178_L5 n x1 (nI n) FU (0 : Int32) f).bind fun R3 =>
  some R3

set_option maxHeartbeats 4000000 in
set_option maxRecDepth 100000 in
theorem kJ7_fill_53178 (l : Launch) (D : va_G) (a : Nat) (cA : ClassId) (n : Nat) (f : Nat → Int32) (x1 : Int32) {R : (Nat → Int32)} (hf : fJ7_fill_53178 n f x1 = some R) : MV l yJ7_fill_53178 wsJ7_fill_53178 (rmD 0) D ([.ref a, .int x1] : List Value) (wF a cA n f) [(cA, .int)] NT (wF a cA n R) := by
  refine MV.mk (cc := cJ7_fill_53178) (maxL := 4) (ret := none) (by first | decide | decide +kernel) rfl (Nat.le_of_ble_eq_true rfl) ?_
  intro p e s m below meth cd A ls hE
  obtain ⟨hx, hb, hr, hml, hts, hown, hlocks, hP, hK, hD, hA, hN, hAe, hl⟩ := hE
  have hown : s.vm.findClass RJ7 = some m.cls := hown
  have hS : va_S A s.heap s.heap [] := va_S.rf
  have hl : lv_has ls 4 [(0, .ref a), (1, .int x1)] := hl
  rw [fJ7_fill_53178] at hf
  refine lv_iconst (v := (0 : Int32)) hx hb dJ7_fill_53178_0 (by decide) ?_
  refine lv_istore_n (lv' := [(2, .int (0 : Int32)), (0, .ref a), (1, .int x1)]) hx hb dJ7_fill_53178_1 rfl hl (by decide) rfl (fun ls hl => ?_)
  refine lv_aload_n hx hb dJ7_fill_53178_2 rfl (lv_at hl 1 rfl) ?_
  refine va_alen (v := (nI n)) hx hb hK hP 0 0 rfl rfl rfl dJ7_fill_53178_3 ?_
  refine lv_istore_n (lv' := [(3, .int (nI n)), (2, .int (0 : Int32)), (0, .ref a), (1, .int x1)]) hx hb dJ7_fill_53178_4 rfl hl (by decide) rfl (fun ls hl => ?_)
  have lp5 : ∀ (v1 : Int32) (v3 : Int32), ∀ (k : Nat) (v2 : Int32) (f : Nat → Int32) (H : Heap) (locs : List Loc) (ls : Array Slot) (o : (Nat → Int32)), lv_has ls 4 [(2, .int v2), (1, .int v1), (3, .int v3), (0, .ref a)] → va_P D vwCl (wF a cA n f) H → va_D A (wF a cA n f) → va_S A s.heap H locs → fJ7_fill_53178_L5 n v1 v3 k v2 f = some o → (∀ (H : Heap) (locs : List Loc) (ls : Array Slot), lv_has ls 4 [] → va_P D vwCl (wF a cA n o) H → va_D A (wF a cA n o) → va_S A s.heap H locs → W p l e (headSpec wsJ7_fill_53178 (rmD 0)).room s m ([.ref a, .int x1] : List Value).toArray below meth cd H locs 0 0 (QV D below ([.ref a, .int x1] : List Value).toArray s A (wF a cA n R)) (F0 m 20 ls [])) → W p l e (headSpec wsJ7_fill_53178 (rmD 0)).room s m ([.ref a, .int x1] : List Value).toArray below meth cd H locs 0 0 (QV D below ([.ref a, .int x1] : List Value).toArray s A (wF a cA n R)) (F0 m 5 ls []) := by
    intro v1 v3
    intro k
    induction k with
    | zero =>
      intro v2 f H locs ls o hl hP hD hS hf
      exact absurd hf (by simp [fJ7_fill_53178_L5])
    | succ k ih =>
      intro v2 f H locs ls o hl hP hD hS hf kont
      rw [fJ7_fill_53178_L5] at hf
      refine lv_iload_n hx hb dJ7_fill_53178_5 rfl (lv_at hl 0 rfl) ?_
      refine lv_iload_n hx hb dJ7_fill_53178_6 rfl (lv_at hl 2 rfl) ?_
      refine lv_icmp_ge (tgt := 20) hx hb dJ7_fill_53178_7 (by decide) (fun c1 => ?_) (fun c1 => ?_)
      · rw [if_pos c1] at hf
        obtain rfl := Option.some.inj hf
        exact kont _ _ _ (lv_sub hl [] rfl) hP hD hS
      · rw [if_neg c1] at hf
        refine lv_aload_n hx hb dJ7_fill_53178_10 rfl (lv_at hl 3 rfl) ?_
        refine lv_iload_n hx hb dJ7_fill_53178_11 rfl (lv_at hl 0 rfl) ?_
        refine lv_iload_n hx hb dJ7_fill_53178_12 rfl (lv_at hl 1 rfl) ?_
        obtain ⟨g2, hf⟩ := g_inv hf
        refine va_iast hx hb hK hP hD hS 0 0 rfl rfl (inb_vp g2) dJ7_fill_53178_13 (fun H locs hP hD hS => ?_)
        have hP : va_P D vwCl (wF a cA n (upd f v2.toNatClampNeg v1)) H := hP
        have hD : va_D A (wF a cA n (upd f v2.toNatClampNeg v1)) := hD
        refine lv_iinc (v := (v2 + (1 : Int32))) (lv' := [(2, .int (v2 + (1 : Int32))), (1, .int v1), (3, .int v3), (0, .ref a)]) hx hb dJ7_fill_53178_14 hl (k := 0) rfl rfl (by decide) rfl (fun ls hl => ?_)
        refine lv_goto (tgt := 5) hx hb dJ7_fill_53178_17 (by decide) ?_
        exact ih (v2 + (1 : Int32)) (upd f v2.toNatClampNeg v1) _ _ _ o (lv_sub hl [0, 1, 2, 3] rfl) hP hD hS hf kont
  obtain ⟨R3, hc4, hf⟩ := b_inv hf
  refine lp5 x1 (nI n) FU (0 : Int32) f _ _ _ R3 (lv_sub hl [1, 3, 0, 2] rfl) hP hD hS hc4 (fun H locs ls hl hP hD hS => ?_)
  obtain rfl := Option.some.inj hf
  exact k_retV hx hb hr hlocks hP hS dJ7_fill_53178_20

noncomputable def fX6_count (n : Nat) (f : Nat → Int32) (ct : Int32) : Option (Int32) :=
  some ct

set_option maxHeartbeats 4000000 in
set_option maxRecDepth 100000 in
theorem kX6_count (l : Launch) (D : va_G) (h : Nat) (a : Nat) (cA : ClassId) (n : Nat) (f : Nat → Int32) (ct : Int32) {R : Int32} (hf : fX6_count n f ct = some R) : MI l yX6_count wsX6_count (rmD 0) D ([.ref h] : List Value) (wR h a cA n f ct) [(cA, .int)] NT R (wR h a cA n f ct) := by
  refine MI.mk (cc := cX6_count) (maxL := 1) (ret := (some .int)) (by first | decide | decide +kernel) rfl (Nat.le_of_ble_eq_true rfl) ?_
  intro p e s m below meth cd A ls hE
  obtain ⟨hx, hb, hr, hml, hts, hown, hlocks, hP, hK, hD, hA, hN, hAe, hl⟩ := hE
  have hown : s.vm.findClass RX6 = some m.cls := hown
  have hS : va_S A s.heap s.heap [] := va_S.rf
  have hl : lv_has ls 1 [(0, .ref h)] := hl
  rw [fX6_count] at hf
  refine lv_aload_n hx hb dX6_count_0 rfl (lv_at hl 0 rfl) ?_
  refine va_get (D := D) (ci := 5) (v := .int ct) (C := RX6) (T := TX6) (N := 2) hx hb hts (fun w h => List.mem_cons_of_mem _ (List.mem_append_right _ h)) hown hK hP 0 rfl rfl 1 (by decide) (hts (.fieldLink RX6 15 "DeltaWindows$Row" "count" "I") (List.mem_of_getElem? (i := 1) rfl)) (fun _ h9 => h9) rfl dX6_count_1 ?_
  obtain rfl := Option.some.inj hf
  exact k_retI hx hb hr hlocks hP hS dX6_count_4

noncomputable def fX6_room (n : Nat) (f : Nat → Int32) (ct : Int32) : Option (Int32) :=
  some ((nI n) - ct)

set_option maxHeartbeats 4000000 in
set_option maxRecDepth 100000 in
theorem kX6_room (l : Launch) (D : va_G) (h : Nat) (a : Nat) (cA : ClassId) (n : Nat) (f : Nat → Int32) (ct : Int32) {R : Int32} (hf : fX6_room n f ct = some R) : MI l yX6_room wsX6_room (rmD 0) D ([.ref h] : List Value) (wR h a cA n f ct) [(cA, .int)] NT R (wR h a cA n f ct) := by
  refine MI.mk (cc := cX6_room) (maxL := 1) (ret := (some .int)) (by first | decide | decide +kernel) rfl (Nat.le_of_ble_eq_true rfl) ?_
  intro p e s m below meth cd A ls hE
  obtain ⟨hx, hb, hr, hml, hts, hown, hlocks, hP, hK, hD, hA, hN, hAe, hl⟩ := hE
  have hown : s.vm.findClass RX6 = some m.cls := hown
  have hS : va_S A s.heap s.heap [] := va_S.rf
  have hl : lv_has ls 1 [(0, .ref h)] := hl
  rw [fX6_room] at hf
  refine lv_aload_n hx hb dX6_room_0 rfl (lv_at hl 0 rfl) ?_
  refine va_get (D := D) (ci := 5) (v := .ref a) (C := RX6) (T := TX6) (N := 2) hx hb hts (fun w h => List.mem_cons_of_mem _ (List.mem_append_right _ h)) hown hK hP 0 rfl rfl 0 (by decide) (hts (.fieldLink RX6 9 "DeltaWindows$Row" "bytes" "[I") (List.mem_of_getElem? (i := 1) rfl)) (fun _ h9 => h9) rfl dX6_room_1 ?_
  refine va_alen (v := (nI n)) hx hb hK hP 1 0 rfl rfl rfl dX6_room_4 ?_
  refine lv_aload_n hx hb dX6_room_5 rfl (lv_at hl 0 rfl) ?_
  refine va_get (D := D) (ci := 5) (v := .int ct) (C := RX6) (T := TX6) (N := 2) hx hb hts (fun w h => List.mem_cons_of_mem _ (List.mem_append_right _ h)) hown hK hP 0 rfl rfl 1 (by decide) (hts (.fieldLink RX6 15 "DeltaWindows$Row" "count" "I") (List.mem_of_getElem? (i := 2) rfl)) (fun _ h9 => h9) rfl dX6_room_6 ?_
  refine lv_isub hx hb dX6_room_9 ?_
  obtain rfl := Option.some.inj hf
  exact k_retI hx hb hr hlocks hP hS dX6_room_10

noncomputable def fX6_at (n : Nat) (f : Nat → Int32) (ct : Int32) (x1 : Int32) : Option (Int32) :=
  if x1 < 0 then
    some (-1 : Int32)
  else
    if ct ≤ x1 then
      some (-1 : Int32)
    else
      if inb x1 n = true then
      some (f x1.toNatClampNeg)
      else none

set_option maxHeartbeats 4000000 in
set_option maxRecDepth 100000 in
theorem kX6_at (l : Launch) (D : va_G) (h : Nat) (a : Nat) (cA : ClassId) (n : Nat) (f : Nat → Int32) (ct : Int32) (x1 : Int32) {R : Int32} (hf : fX6_at n f ct x1 = some R) : MI l yX6_at wsX6_at (rmD 0) D ([.ref h, .int x1] : List Value) (wR h a cA n f ct) [(cA, .int)] NT R (wR h a cA n f ct) := by
  refine MI.mk (cc := cX6_at) (maxL := 2) (ret := (some .int)) (by first | decide | decide +kernel) rfl (Nat.le_of_ble_eq_true rfl) ?_
  intro p e s m below meth cd A ls hE
  obtain ⟨hx, hb, hr, hml, hts, hown, hlocks, hP, hK, hD, hA, hN, hAe, hl⟩ := hE
  have hown : s.vm.findClass RX6 = some m.cls := hown
  have hS : va_S A s.heap s.heap [] := va_S.rf
  have hl : lv_has ls 2 [(0, .ref h), (1, .int x1)] := hl
  rw [fX6_at] at hf
  refine lv_iload_n hx hb dX6_at_0 rfl (lv_at hl 1 rfl) ?_
  refine lv_if_lt (tgt := 21) hx hb dX6_at_1 (by decide) (fun c1 => ?_) (fun c1 => ?_)
  · rw [if_pos c1] at hf
    refine lv_iconst (v := (-1 : Int32)) hx hb dX6_at_21 (by decide) ?_
    obtain rfl := Option.some.inj hf
    exact k_retI hx hb hr hlocks hP hS dX6_at_22
  · rw [if_neg c1] at hf
    refine lv_iload_n hx hb dX6_at_4 rfl (lv_at hl 1 rfl) ?_
    refine lv_aload_n hx hb dX6_at_5 rfl (lv_at hl 0 rfl) ?_
    refine va_get (D := D) (ci := 5) (v := .int ct) (C := RX6) (T := TX6) (N := 2) hx hb hts (fun w h => List.mem_cons_of_mem _ (List.mem_append_right _ h)) hown hK hP 0 rfl rfl 1 (by decide) (hts (.fieldLink RX6 15 "DeltaWindows$Row" "count" "I") (List.mem_of_getElem? (i := 1) rfl)) (fun _ h9 => h9) rfl dX6_at_6 ?_
    refine lv_icmp_ge (tgt := 21) hx hb dX6_at_9 (by decide) (fun c2 => ?_) (fun c2 => ?_)
    · rw [if_pos c2] at hf
      refine lv_iconst (v := (-1 : Int32)) hx hb dX6_at_21 (by decide) ?_
      obtain rfl := Option.some.inj hf
      exact k_retI hx hb hr hlocks hP hS dX6_at_22
    · rw [if_neg c2] at hf
      refine lv_aload_n hx hb dX6_at_12 rfl (lv_at hl 0 rfl) ?_
      refine va_get (D := D) (ci := 5) (v := .ref a) (C := RX6) (T := TX6) (N := 2) hx hb hts (fun w h => List.mem_cons_of_mem _ (List.mem_append_right _ h)) hown hK hP 0 rfl rfl 0 (by decide) (hts (.fieldLink RX6 9 "DeltaWindows$Row" "bytes" "[I") (List.mem_of_getElem? (i := 2) rfl)) (fun _ h9 => h9) rfl dX6_at_13 ?_
      refine lv_iload_n hx hb dX6_at_16 rfl (lv_at hl 1 rfl) ?_
      obtain ⟨g3, hf⟩ := g_inv hf
      refine va_iald hx hb hK hP 1 0 rfl rfl (inb_vp g3) dX6_at_17 ?_
      refine lv_goto (tgt := 22) hx hb dX6_at_18 (by decide) ?_
      obtain rfl := Option.some.inj hf
      exact k_retI hx hb hr hlocks hP hS dX6_at_22

noncomputable def fX6_replace (n : Nat) (f : Nat → Int32) (ct : Int32) (x1 : Int32) (x2 : Int32) : Option ((Nat → Int32)) :=
  if x1 < 0 then
    some f
  else
    if ct ≤ x1 then
      some f
    else
      if inb x1 n = true then
      some (upd f x1.toNatClampNeg x2)
      else none

set_option maxHeartbeats 4000000 in
set_option maxRecDepth 100000 in
theorem kX6_replace (l : Launch) (D : va_G) (h : Nat) (a : Nat) (cA : ClassId) (n : Nat) (f : Nat → Int32) (ct : Int32) (x1 : Int32) (x2 : Int32) {R : (Nat → Int32)} (hf : fX6_replace n f ct x1 x2 = some R) : MV l yX6_replace wsX6_replace (rmD 0) D ([.ref h, .int x1, .int x2] : List Value) (wR h a cA n f ct) [(cA, .int)] NT (wR h a cA n R ct) := by
  refine MV.mk (cc := cX6_replace) (maxL := 3) (ret := none) (by first | decide | decide +kernel) rfl (Nat.le_of_ble_eq_true rfl) ?_
  intro p e s m below meth cd A ls hE
  obtain ⟨hx, hb, hr, hml, hts, hown, hlocks, hP, hK, hD, hA, hN, hAe, hl⟩ := hE
  have hown : s.vm.findClass RX6 = some m.cls := hown
  have hS : va_S A s.heap s.heap [] := va_S.rf
  have hl : lv_has ls 3 [(0, .ref h), (1, .int x1), (2, .int x2)] := hl
  rw [fX6_replace] at hf
  refine lv_iload_n hx hb dX6_replace_0 rfl (lv_at hl 1 rfl) ?_
  refine lv_if_lt (tgt := 19) hx hb dX6_replace_1 (by decide) (fun c1 => ?_) (fun c1 => ?_)
  · rw [if_pos c1] at hf
    obtain rfl := Option.some.inj hf
    exact k_retV hx hb hr hlocks hP hS dX6_replace_19
  · rw [if_neg c1] at hf
    refine lv_iload_n hx hb dX6_replace_4 rfl (lv_at hl 1 rfl) ?_
    refine lv_aload_n hx hb dX6_replace_5 rfl (lv_at hl 0 rfl) ?_
    refine va_get (D := D) (ci := 5) (v := .int ct) (C := RX6) (T := TX6) (N := 2) hx hb hts (fun w h => List.mem_cons_of_mem _ (List.mem_append_right _ h)) hown hK hP 0 rfl rfl 1 (by decide) (hts (.fieldLink RX6 15 "DeltaWindows$Row" "count" "I") (List.mem_of_getElem? (i := 1) rfl)) (fun _ h9 => h9) rfl dX6_replace_6 ?_
    refine lv_icmp_ge (tgt := 19) hx hb dX6_replace_9 (by decide) (fun c2 => ?_) (fun c2 => ?_)
    · rw [if_pos c2] at hf
      obtain rfl := Option.some.inj hf
      exact k_retV hx hb hr hlocks hP hS dX6_replace_19
    · rw [if_neg c2] at hf
      refine lv_aload_n hx hb dX6_replace_12 rfl (lv_at hl 0 rfl) ?_
      refine va_get (D := D) (ci := 5) (v := .ref a) (C := RX6) (T := TX6) (N := 2) hx hb hts (fun w h => List.mem_cons_of_mem _ (List.mem_append_right _ h)) hown hK hP 0 rfl rfl 0 (by decide) (hts (.fieldLink RX6 9 "DeltaWindows$Row" "bytes" "[I") (List.mem_of_getElem? (i := 2) rfl)) (fun _ h9 => h9) rfl dX6_replace_13 ?_
      refine lv_iload_n hx hb dX6_replace_16 rfl (lv_at hl 1 rfl) ?_
      refine lv_iload_n hx hb dX6_replace_17 rfl (lv_at hl 2 rfl) ?_
      obtain ⟨g3, hf⟩ := g_inv hf
      refine va_iast hx hb hK hP hD hS 1 0 rfl rfl (inb_vp g3) dX6_replace_18 (fun H locs hP hD hS => ?_)
      have hP : va_P D vwCl (wR h a cA n (upd f x1.toNatClampNeg x2) ct) H := hP
      have hD : va_D A (wR h a cA n (upd f x1.toNatClampNeg x2) ct) := hD
      obtain rfl := Option.some.inj hf
      exact k_retV hx hb hr hlocks hP hS dX6_replace_19

noncomputable def fX6_keep (n : Nat) (f : Nat → Int32) (ct : Int32) (x1 : Int32) : Option (Int32) :=
  if x1 < 0 then
    some ct
  else
    if ct ≤ x1 then
      some ct
    else
      some x1

set_option maxHeartbeats 4000000 in
set_option maxRecDepth 100000 in
theorem kX6_keep (l : Launch) (D : va_G) (h : Nat) (a : Nat) (cA : ClassId) (n : Nat) (f : Nat → Int32) (ct : Int32) (x1 : Int32) {R : Int32} (hf : fX6_keep n f ct x1 = some R) : MV l yX6_keep wsX6_keep (rmD 0) D ([.ref h, .int x1] : List Value) (wR h a cA n f ct) [(cA, .int)] NT (wR h a cA n f R) := by
  refine MV.mk (cc := cX6_keep) (maxL := 2) (ret := none) (by first | decide | decide +kernel) rfl (Nat.le_of_ble_eq_true rfl) ?_
  intro p e s m below meth cd A ls hE
  obtain ⟨hx, hb, hr, hml, hts, hown, hlocks, hP, hK, hD, hA, hN, hAe, hl⟩ := hE
  have hown : s.vm.findClass RX6 = some m.cls := hown
  have hS : va_S A s.heap s.heap [] := va_S.rf
  have hl : lv_has ls 2 [(0, .ref h), (1, .int x1)] := hl
  rw [fX6_keep] at hf
  refine lv_iload_n hx hb dX6_keep_0 rfl (lv_at hl 1 rfl) ?_
  refine lv_if_lt (tgt := 17) hx hb dX6_keep_1 (by decide) (fun c1 => ?_) (fun c1 => ?_)
  · rw [if_pos c1] at hf
    obtain rfl := Option.some.inj hf
    exact k_retV hx hb hr hlocks hP hS dX6_keep_17
  · rw [if_neg c1] at hf
    refine lv_iload_n hx hb dX6_keep_4 rfl (lv_at hl 1 rfl) ?_
    refine lv_aload_n hx hb dX6_keep_5 rfl (lv_at hl 0 rfl) ?_
    refine va_get (D := D) (ci := 5) (v := .int ct) (C := RX6) (T := TX6) (N := 2) hx hb hts (fun w h => List.mem_cons_of_mem _ (List.mem_append_right _ h)) hown hK hP 0 rfl rfl 1 (by decide) (hts (.fieldLink RX6 15 "DeltaWindows$Row" "count" "I") (List.mem_of_getElem? (i := 1) rfl)) (fun _ h9 => h9) rfl dX6_keep_6 ?_
    refine lv_icmp_ge (tgt := 17) hx hb dX6_keep_9 (by decide) (fun c2 => ?_) (fun c2 => ?_)
    · rw [if_pos c2] at hf
      obtain rfl := Option.some.inj hf
      exact k_retV hx hb hr hlocks hP hS dX6_keep_17
    · rw [if_neg c2] at hf
      refine lv_aload_n hx hb dX6_keep_12 rfl (lv_at hl 0 rfl) ?_
      refine lv_iload_n hx hb dX6_keep_13 rfl (lv_at hl 1 rfl) ?_
      refine va_put (D := D) (ci := 5) (v := .int x1) (ty := .int) (C := RX6) (T := TX6) (N := 2) hx hb hts (fun w h => List.mem_cons_of_mem _ (List.mem_append_right _ h)) tyX6 tyX6_ok nmX6 hown hK hP hD hS 0 rfl rfl 1 (by decide) (hts (.fieldLink RX6 15 "DeltaWindows$Row" "count" "I") (List.mem_of_getElem? (i := 1) rfl)) (fun _ h9 => h9) rfl (by decide +kernel) rfl rfl (Nat.le_of_ble_eq_true rfl) dX6_keep_14 (fun H locs hP hD hS => ?_)
      have hP : va_P D vwCl (wR h a cA n f x1) H := hP
      have hD : va_D A (wR h a cA n f x1) := hD
      obtain rfl := Option.some.inj hf
      exact k_retV hx hb hr hlocks hP hS dX6_keep_17

noncomputable def fX6_append (n : Nat) (f : Nat → Int32) (ct : Int32) (x1 : Int32) : Option ((Nat → Int32) × Int32) :=
  if (nI n) ≤ ct then
    some (f, ct)
  else
    if inb ct n = true then
    some ((upd f ct.toNatClampNeg x1), (ct + (1 : Int32)))
    else none

set_option maxHeartbeats 4000000 in
set_option maxRecDepth 100000 in
theorem kX6_append (l : Launch) (D : va_G) (h : Nat) (a : Nat) (cA : ClassId) (n : Nat) (f : Nat → Int32) (ct : Int32) (x1 : Int32) {R : (Nat → Int32) × Int32} (hf : fX6_append n f ct x1 = some R) : MV l yX6_append wsX6_append (rmD 0) D ([.ref h, .int x1] : List Value) (wR h a cA n f ct) [(cA, .int)] NT (wR h a cA n R.1 R.2) := by
  refine MV.mk (cc := cX6_append) (maxL := 2) (ret := none) (by first | decide | decide +kernel) rfl (Nat.le_of_ble_eq_true rfl) ?_
  intro p e s m below meth cd A ls hE
  obtain ⟨hx, hb, hr, hml, hts, hown, hlocks, hP, hK, hD, hA, hN, hAe, hl⟩ := hE
  have hown : s.vm.findClass RX6 = some m.cls := hown
  have hS : va_S A s.heap s.heap [] := va_S.rf
  have hl : lv_has ls 2 [(0, .ref h), (1, .int x1)] := hl
  rw [fX6_append] at hf
  refine lv_aload_n hx hb dX6_append_0 rfl (lv_at hl 0 rfl) ?_
  refine va_get (D := D) (ci := 5) (v := .int ct) (C := RX6) (T := TX6) (N := 2) hx hb hts (fun w h => List.mem_cons_of_mem _ (List.mem_append_right _ h)) hown hK hP 0 rfl rfl 1 (by decide) (hts (.fieldLink RX6 15 "DeltaWindows$Row" "count" "I") (List.mem_of_getElem? (i := 1) rfl)) (fun _ h9 => h9) rfl dX6_append_1 ?_
  refine lv_aload_n hx hb dX6_append_4 rfl (lv_at hl 0 rfl) ?_
  refine va_get (D := D) (ci := 5) (v := .ref a) (C := RX6) (T := TX6) (N := 2) hx hb hts (fun w h => List.mem_cons_of_mem _ (List.mem_append_right _ h)) hown hK hP 0 rfl rfl 0 (by decide) (hts (.fieldLink RX6 9 "DeltaWindows$Row" "bytes" "[I") (List.mem_of_getElem? (i := 2) rfl)) (fun _ h9 => h9) rfl dX6_append_5 ?_
  refine va_alen (v := (nI n)) hx hb hK hP 1 0 rfl rfl rfl dX6_append_8 ?_
  refine lv_icmp_ge (tgt := 32) hx hb dX6_append_9 (by decide) (fun c1 => ?_) (fun c1 => ?_)
  · rw [if_pos c1] at hf
    obtain rfl := Option.some.inj hf
    exact k_retV hx hb hr hlocks hP hS dX6_append_32
  · rw [if_neg c1] at hf
    refine lv_aload_n hx hb dX6_append_12 rfl (lv_at hl 0 rfl) ?_
    refine va_get (D := D) (ci := 5) (v := .ref a) (C := RX6) (T := TX6) (N := 2) hx hb hts (fun w h => List.mem_cons_of_mem _ (List.mem_append_right _ h)) hown hK hP 0 rfl rfl 0 (by decide) (hts (.fieldLink RX6 9 "DeltaWindows$Row" "bytes" "[I") (List.mem_of_getElem? (i := 2) rfl)) (fun _ h9 => h9) rfl dX6_append_13 ?_
    refine lv_aload_n hx hb dX6_append_16 rfl (lv_at hl 0 rfl) ?_
    refine va_get (D := D) (ci := 5) (v := .int ct) (C := RX6) (T := TX6) (N := 2) hx hb hts (fun w h => List.mem_cons_of_mem _ (List.mem_append_right _ h)) hown hK hP 0 rfl rfl 1 (by decide) (hts (.fieldLink RX6 15 "DeltaWindows$Row" "count" "I") (List.mem_of_getElem? (i := 1) rfl)) (fun _ h9 => h9) rfl dX6_append_17 ?_
    refine lv_iload_n hx hb dX6_append_20 rfl (lv_at hl 1 rfl) ?_
    obtain ⟨g2, hf⟩ := g_inv hf
    refine va_iast hx hb hK hP hD hS 1 0 rfl rfl (inb_vp g2) dX6_append_21 (fun H locs hP hD hS => ?_)
    have hP : va_P D vwCl (wR h a cA n (upd f ct.toNatClampNeg x1) ct) H := hP
    have hD : va_D A (wR h a cA n (upd f ct.toNatClampNeg x1) ct) := hD
    refine lv_aload_n hx hb dX6_append_22 rfl (lv_at hl 0 rfl) ?_
    refine lv_dup hx hb dX6_append_23 rfl ?_
    refine va_get (D := D) (ci := 5) (v := .int ct) (C := RX6) (T := TX6) (N := 2) hx hb hts (fun w h => List.mem_cons_of_mem _ (List.mem_append_right _ h)) hown hK hP 0 rfl rfl 1 (by decide) (hts (.fieldLink RX6 15 "DeltaWindows$Row" "count" "I") (List.mem_of_getElem? (i := 1) rfl)) (fun _ h9 => h9) rfl dX6_append_24 ?_
    refine lv_iconst (v := (1 : Int32)) hx hb dX6_append_27 (by decide) ?_
    refine lv_iadd hx hb dX6_append_28 ?_
    refine va_put (D := D) (ci := 5) (v := .int (ct + (1 : Int32))) (ty := .int) (C := RX6) (T := TX6) (N := 2) hx hb hts (fun w h => List.mem_cons_of_mem _ (List.mem_append_right _ h)) tyX6 tyX6_ok nmX6 hown hK hP hD hS 0 rfl rfl 1 (by decide) (hts (.fieldLink RX6 15 "DeltaWindows$Row" "count" "I") (List.mem_of_getElem? (i := 1) rfl)) (fun _ h9 => h9) rfl (by decide +kernel) rfl rfl (Nat.le_of_ble_eq_true rfl) dX6_append_29 (fun H locs hP hD hS => ?_)
    have hP : va_P D vwCl (wR h a cA n (upd f ct.toNatClampNeg x1) (ct + (1 : Int32))) H := hP
    have hD : va_D A (wR h a cA n (upd f ct.toNatClampNeg x1) (ct + (1 : Int32))) := hD
    obtain rfl := Option.some.inj hf
    exact k_retV hx hb hr hlocks hP hS dX6_append_32

noncomputable def fX6_appendRow_L2 (n : Nat) (n2 : Nat) (f2 : Nat → Int32) (ct2 : Int32) : Nat → (Int32) → (Nat → Int32) → (Int32) → Option ((Nat → Int32) × Int32)
  | 0, _, _, _ => none
  | k + 1, v2, f, ct =>
    if ct2 ≤ v2 then
      some (f, ct)
    else
      if inb v2 n2 = true then
      (fX6_append n f ct (f2 v2.toNatClampNeg)).bind fun R3 =>
      fX6_appendRow_L2 n n2 f2 ct2 k (v2 + (1 : Int32)) R3.1 R3.2
      else none

noncomputable def fX6_appendRow (n : Nat) (n2 : Nat) (f : Nat → Int32) (ct : Int32) (f2 : Nat → Int32) (ct2 : Int32) : Option ((Nat → Int32) × Int32) :=
  (fX6_appendRow_L2 n n2 f2 ct2 FU (0 : Int32) f ct).bind fun R5 =>
  some (R5.1, R5.2)

set_option maxHeartbeats 4000000 in
set_option maxRecDepth 100000 in
theorem kX6_appendRow (l : Launch) (D : va_G) (h : Nat) (a : Nat) (cA : ClassId) (h2 : Nat) (a2 : Nat) (cA2 : ClassId) (n : Nat) (n2 : Nat) (f : Nat → Int32) (ct : Int32) (f2 : Nat → Int32) (ct2 : Int32) {R : (Nat → Int32) × Int32} (hf : fX6_appendRow n n2 f ct f2 ct2 = some R) : MV l yX6_appendRow wsX6_appendRow (rmD 1) D ([.ref h, .ref h2] : List Value) (wRR h a cA n h2 a2 cA2 n2 f ct f2 ct2) [(cA, .int), (cA2, .int)] NT (wRR h a cA n h2 a2 cA2 n2 R.1 R.2 f2 ct2) := by
  refine MV.mk (cc := cX6_appendRow) (maxL := 3) (ret := none) (by first | decide | decide +kernel) rfl (Nat.le_of_ble_eq_true rfl) ?_
  intro p e s m below meth cd A ls hE
  obtain ⟨hx, hb, hr, hml, hts, hown, hlocks, hP, hK, hD, hA, hN, hAe, hl⟩ := hE
  have hown : s.vm.findClass RX6 = some m.cls := hown
  have hS : va_S A s.heap s.heap [] := va_S.rf
  have hl : lv_has ls 3 [(0, .ref h), (1, .ref h2)] := hl
  rw [fX6_appendRow] at hf
  refine lv_iconst (v := (0 : Int32)) hx hb dX6_appendRow_0 (by decide) ?_
  refine lv_istore_n (lv' := [(2, .int (0 : Int32)), (0, .ref h), (1, .ref h2)]) hx hb dX6_appendRow_1 rfl hl (by decide) rfl (fun ls hl => ?_)
  have lp7 : ∀ (f2 : Nat → Int32) (ct2 : Int32), ∀ (k : Nat) (v2 : Int32) (f : Nat → Int32) (ct : Int32) (H : Heap) (locs : List Loc) (ls : Array Slot) (o : (Nat → Int32) × Int32), lv_has ls 3 [(2, .int v2), (0, .ref h), (1, .ref h2)] → va_P D vwCl (wRR h a cA n h2 a2 cA2 n2 f ct f2 ct2) H → va_D A (wRR h a cA n h2 a2 cA2 n2 f ct f2 ct2) → va_S A s.heap H locs → fX6_appendRow_L2 n n2 f2 ct2 k v2 f ct = some o → (∀ (H : Heap) (locs : List Loc) (ls : Array Slot), lv_has ls 3 [] → va_P D vwCl (wRR h a cA n h2 a2 cA2 n2 o.1 o.2 f2 ct2) H → va_D A (wRR h a cA n h2 a2 cA2 n2 o.1 o.2 f2 ct2) → va_S A s.heap H locs → W p l e (headSpec wsX6_appendRow (rmD 1)).room s m ([.ref h, .ref h2] : List Value).toArray below meth cd H locs 0 0 (QV D below ([.ref h, .ref h2] : List Value).toArray s A (wRR h a cA n h2 a2 cA2 n2 R.1 R.2 f2 ct2)) (F0 m 26 ls [])) → W p l e (headSpec wsX6_appendRow (rmD 1)).room s m ([.ref h, .ref h2] : List Value).toArray below meth cd H locs 0 0 (QV D below ([.ref h, .ref h2] : List Value).toArray s A (wRR h a cA n h2 a2 cA2 n2 R.1 R.2 f2 ct2)) (F0 m 2 ls []) := by
    intro f2 ct2
    intro k
    induction k with
    | zero =>
      intro v2 f ct H locs ls o hl hP hD hS hf
      exact absurd hf (by simp [fX6_appendRow_L2])
    | succ k ih =>
      intro v2 f ct H locs ls o hl hP hD hS hf kont
      rw [fX6_appendRow_L2] at hf
      refine lv_iload_n hx hb dX6_appendRow_2 rfl (lv_at hl 0 rfl) ?_
      refine lv_aload_n hx hb dX6_appendRow_3 rfl (lv_at hl 2 rfl) ?_
      refine va_get (D := D) (ci := 5) (v := .int ct2) (C := RX6) (T := TX6) (N := 2) hx hb hts (fun w h => List.mem_cons_of_mem _ (List.mem_append_right _ h)) hown hK hP 2 rfl rfl 1 (by decide) (hts (.fieldLink RX6 15 "DeltaWindows$Row" "count" "I") (List.mem_of_getElem? (i := 1) rfl)) (fun _ h9 => h9) rfl dX6_appendRow_4 ?_
      refine lv_icmp_ge (tgt := 26) hx hb dX6_appendRow_7 (by decide) (fun c1 => ?_) (fun c1 => ?_)
      · rw [if_pos c1] at hf
        obtain rfl := Option.some.inj hf
        exact kont _ _ _ (lv_sub hl [] rfl) hP hD hS
      · rw [if_neg c1] at hf
        refine lv_aload_n hx hb dX6_appendRow_10 rfl (lv_at hl 1 rfl) ?_
        refine lv_aload_n hx hb dX6_appendRow_11 rfl (lv_at hl 2 rfl) ?_
        refine va_get (D := D) (ci := 5) (v := .ref a2) (C := RX6) (T := TX6) (N := 2) hx hb hts (fun w h => List.mem_cons_of_mem _ (List.mem_append_right _ h)) hown hK hP 2 rfl rfl 0 (by decide) (hts (.fieldLink RX6 9 "DeltaWindows$Row" "bytes" "[I") (List.mem_of_getElem? (i := 2) rfl)) (fun _ h9 => h9) rfl dX6_appendRow_12 ?_
        refine lv_iload_n hx hb dX6_appendRow_15 rfl (lv_at hl 0 rfl) ?_
        obtain ⟨g2, hf⟩ := g_inv hf
        refine va_iald hx hb hK hP 3 1 rfl rfl (inb_vp g2) dX6_appendRow_16 ?_
        obtain ⟨R3, hc4, hf⟩ := b_inv hf
        have hk := kcut (wc := (wR h a cA n f ct)) (wc' := (wR h a cA n R3.1 R3.2)) (wf := (wRR h a cA n h2 a2 cA2 n2 R3.1 R3.2 f2 ct2)) hP hD hS hA [0, 1] rfl (by decide) rfl rfl
        refine k_goV (va_runV (As := [.int (f2 v2.toNatClampNeg)]) (rest := []) ⟨hx, hb, hml, hown, hts⟩ (kX6_append l D h a cA n f ct (f2 v2.toNatClampNeg) hc4 _) (cwV 1 hts gX6_appendRow_X6_append rfl rfl rfl (by decide +kernel) ⟨Nat.le_of_ble_eq_true rfl, Nat.le_of_ble_eq_true rfl⟩) (k_preV (q0 := 0) (ci := 5) hk (hK.sub [0] rfl) NT_bl NT_u rfl rfl rfl) rfl rfl hl.1 rfl (lv_room (Nat.le_of_ble_eq_true rfl)) dX6_appendRow_17 ⟨Nat.zero_le _, Nat.zero_le _⟩) hk hS (fun H locs hP hD hS => ?_)
        refine lv_iinc (v := (v2 + (1 : Int32))) (lv' := [(2, .int (v2 + (1 : Int32))), (0, .ref h), (1, .ref h2)]) hx hb dX6_appendRow_20 hl (k := 0) rfl rfl (by decide) rfl (fun ls hl => ?_)
        refine lv_goto (tgt := 2) hx hb dX6_appendRow_23 (by decide) ?_
        exact ih (v2 + (1 : Int32)) R3.1 R3.2 _ _ _ o (lv_sub hl [0, 1, 2] rfl) hP hD hS hf kont
  obtain ⟨R5, hc6, hf⟩ := b_inv hf
  refine lp7 f2 ct2 FU (0 : Int32) f ct _ _ _ R5 (lv_sub hl [0, 1, 2] rfl) hP hD hS hc6 (fun H locs ls hl hP hD hS => ?_)
  obtain rfl := Option.some.inj hf
  exact k_retV hx hb hr hlocks hP hS dX6_appendRow_26

noncomputable def fX6_appendInteger_L3 (n : Nat) (v1 : Int32) : Nat → (Int32) → (Nat → Int32) → (Int32) → Option ((Nat → Int32) × Int32)
  | 0, _, _, _ => none
  | k + 1, v2, f, ct =>
    if v2 ≤ 0 then
      some (f, ct)
    else
      if (v1 >>> (v2 &&& 31)) ≤ 0 then
        fX6_appendInteger_L3 n v1 k (v2 + (-7 : Int32)) f ct
      else
        (fX6_append n f ct ((128 : Int32) + ((v1 >>> (v2 &&& 31)) &&& (127 : Int32)))).bind fun R3 =>
        fX6_appendInteger_L3 n v1 k (v2 + (-7 : Int32)) R3.1 R3.2

noncomputable def fX6_appendInteger (n : Nat) (f : Nat → Int32) (ct : Int32) (x1 : Int32) : Option ((Nat → Int32) × Int32) :=
  (fX6_appendInteger_L3 n x1 FU (28 : Int32) f ct).bind fun R5 =>
  (fX6_append n R5.1 R5.2 (x1 &&& (127 : Int32))).bind fun R7 =>
  some (R7.1, R7.2)

set_option maxHeartbeats 4000000 in
set_option maxRecDepth 100000 in
theorem kX6_appendInteger (l : Launch) (D : va_G) (h : Nat) (a : Nat) (cA : ClassId) (n : Nat) (f : Nat → Int32) (ct : Int32) (x1 : Int32) {R : (Nat → Int32) × Int32} (hf : fX6_appendInteger n f ct x1 = some R) : MV l yX6_appendInteger wsX6_appendInteger (rmD 1) D ([.ref h, .int x1] : List Value) (wR h a cA n f ct) [(cA, .int)] NT (wR h a cA n R.1 R.2) := by
  refine MV.mk (cc := cX6_appendInteger) (maxL := 4) (ret := none) (by first | decide | decide +kernel) rfl (Nat.le_of_ble_eq_true rfl) ?_
  intro p e s m below meth cd A ls hE
  obtain ⟨hx, hb, hr, hml, hts, hown, hlocks, hP, hK, hD, hA, hN, hAe, hl⟩ := hE
  have hown : s.vm.findClass RX6 = some m.cls := hown
  have hS : va_S A s.heap s.heap [] := va_S.rf
  have hl : lv_has ls 4 [(0, .ref h), (1, .int x1)] := hl
  rw [fX6_appendInteger] at hf
  refine lv_bipush (v := (28 : Int32)) hx hb dX6_appendInteger_0 (by decide) ?_
  refine lv_istore_n (lv' := [(2, .int (28 : Int32)), (0, .ref h), (1, .int x1)]) hx hb dX6_appendInteger_2 rfl hl (by decide) rfl (fun ls hl => ?_)
  have lp9 : ∀ (v1 : Int32), ∀ (k : Nat) (v2 : Int32) (f : Nat → Int32) (ct : Int32) (H : Heap) (locs : List Loc) (ls : Array Slot) (o : (Nat → Int32) × Int32), lv_has ls 4 [(2, .int v2), (1, .int v1), (0, .ref h)] → va_P D vwCl (wR h a cA n f ct) H → va_D A (wR h a cA n f ct) → va_S A s.heap H locs → fX6_appendInteger_L3 n v1 k v2 f ct = some o → (∀ (H : Heap) (locs : List Loc) (ls : Array Slot), lv_has ls 4 [(1, .int v1), (0, .ref h)] → va_P D vwCl (wR h a cA n o.1 o.2) H → va_D A (wR h a cA n o.1 o.2) → va_S A s.heap H locs → W p l e (headSpec wsX6_appendInteger (rmD 1)).room s m ([.ref h, .int x1] : List Value).toArray below meth cd H locs 0 0 (QV D below ([.ref h, .int x1] : List Value).toArray s A (wR h a cA n R.1 R.2)) (F0 m 33 ls [])) → W p l e (headSpec wsX6_appendInteger (rmD 1)).room s m ([.ref h, .int x1] : List Value).toArray below meth cd H locs 0 0 (QV D below ([.ref h, .int x1] : List Value).toArray s A (wR h a cA n R.1 R.2)) (F0 m 3 ls []) := by
    intro v1
    intro k
    induction k with
    | zero =>
      intro v2 f ct H locs ls o hl hP hD hS hf
      exact absurd hf (by simp [fX6_appendInteger_L3])
    | succ k ih =>
      intro v2 f ct H locs ls o hl hP hD hS hf kont
      rw [fX6_appendInteger_L3] at hf
      refine lv_iload_n hx hb dX6_appendInteger_3 rfl (lv_at hl 0 rfl) ?_
      refine lv_if_le (tgt := 33) hx hb dX6_appendInteger_4 (by decide) (fun c1 => ?_) (fun c1 => ?_)
      · rw [if_pos c1] at hf
        obtain rfl := Option.some.inj hf
        exact kont _ _ _ (lv_sub hl [1, 2] rfl) hP hD hS
      · rw [if_neg c1] at hf
        refine lv_iload_n hx hb dX6_appendInteger_7 rfl (lv_at hl 1 rfl) ?_
        refine lv_iload_n hx hb dX6_appendInteger_8 rfl (lv_at hl 0 rfl) ?_
        refine lv_ishr hx hb dX6_appendInteger_9 ?_
        refine lv_istore_n (lv' := [(3, .int (v1 >>> (v2 &&& 31))), (2, .int v2), (1, .int v1), (0, .ref h)]) hx hb dX6_appendInteger_10 rfl hl (by decide) rfl (fun ls hl => ?_)
        refine lv_iload_n hx hb dX6_appendInteger_11 rfl (lv_at hl 0 rfl) ?_
        refine lv_if_le (tgt := 27) hx hb dX6_appendInteger_12 (by decide) (fun c2 => ?_) (fun c2 => ?_)
        · rw [if_pos c2] at hf
          refine lv_iinc (v := (v2 + (-7 : Int32))) (lv' := [(2, .int (v2 + (-7 : Int32))), (3, .int (v1 >>> (v2 &&& 31))), (1, .int v1), (0, .ref h)]) hx hb dX6_appendInteger_27 hl (k := 1) rfl rfl (by decide) rfl (fun ls hl => ?_)
          refine lv_goto (tgt := 3) hx hb dX6_appendInteger_30 (by decide) ?_
          exact ih (v2 + (-7 : Int32)) f ct _ _ _ o (lv_sub hl [0, 2, 3] rfl) hP hD hS hf kont
        · rw [if_neg c2] at hf
          refine lv_aload_n hx hb dX6_appendInteger_15 rfl (lv_at hl 3 rfl) ?_
          refine lv_sipush (v := (128 : Int32)) hx hb dX6_appendInteger_16 (by decide) ?_
          refine lv_iload_n hx hb dX6_appendInteger_19 rfl (lv_at hl 0 rfl) ?_
          refine lv_bipush (v := (127 : Int32)) hx hb dX6_appendInteger_20 (by decide) ?_
          refine lv_iand hx hb dX6_appendInteger_22 ?_
          refine lv_iadd hx hb dX6_appendInteger_23 ?_
          obtain ⟨R3, hc4, hf⟩ := b_inv hf
          have hk := kall (wc' := (wR h a cA n R3.1 R3.2)) hP hD hS hA rfl
          refine k_goV (va_runV (As := [.int ((128 : Int32) + ((v1 >>> (v2 &&& 31)) &&& (127 : Int32)))]) (rest := []) ⟨hx, hb, hml, hown, hts⟩ (kX6_append l D h a cA n f ct ((128 : Int32) + ((v1 >>> (v2 &&& 31)) &&& (127 : Int32))) hc4 _) (cwV 1 hts gX6_appendInteger_X6_append rfl rfl rfl (by decide +kernel) ⟨Nat.le_of_ble_eq_true rfl, Nat.le_of_ble_eq_true rfl⟩) (k_preV (q0 := 0) (ci := 5) hk hK NT_bl NT_u rfl rfl rfl) rfl rfl hl.1 rfl (lv_room (Nat.le_of_ble_eq_true rfl)) dX6_appendInteger_24 ⟨Nat.zero_le _, Nat.zero_le _⟩) hk hS (fun H locs hP hD hS => ?_)
          refine lv_iinc (v := (v2 + (-7 : Int32))) (lv' := [(2, .int (v2 + (-7 : Int32))), (3, .int (v1 >>> (v2 &&& 31))), (1, .int v1), (0, .ref h)]) hx hb dX6_appendInteger_27 hl (k := 1) rfl rfl (by decide) rfl (fun ls hl => ?_)
          refine lv_goto (tgt := 3) hx hb dX6_appendInteger_30 (by decide) ?_
          exact ih (v2 + (-7 : Int32)) R3.1 R3.2 _ _ _ o (lv_sub hl [0, 2, 3] rfl) hP hD hS hf kont
  obtain ⟨R5, hc6, hf⟩ := b_inv hf
  refine lp9 x1 FU (28 : Int32) f ct _ _ _ R5 (lv_sub hl [0, 2, 1] rfl) hP hD hS hc6 (fun H locs ls hl hP hD hS => ?_)
  refine lv_aload_n hx hb dX6_appendInteger_33 rfl (lv_at hl 1 rfl) ?_
  refine lv_iload_n hx hb dX6_appendInteger_34 rfl (lv_at hl 0 rfl) ?_
  refine lv_bipush (v := (127 : Int32)) hx hb dX6_appendInteger_35 (by decide) ?_
  refine lv_iand hx hb dX6_appendInteger_37 ?_
  obtain ⟨R7, hc8, hf⟩ := b_inv hf
  have hk := kall (wc' := (wR h a cA n R7.1 R7.2)) hP hD hS hA rfl
  refine k_goV (va_runV (As := [.int (x1 &&& (127 : Int32))]) (rest := []) ⟨hx, hb, hml, hown, hts⟩ (kX6_append l D h a cA n R5.1 R5.2 (x1 &&& (127 : Int32)) hc8 _) (cwV 1 hts gX6_appendInteger_X6_append rfl rfl rfl (by decide +kernel) ⟨Nat.le_of_ble_eq_true rfl, Nat.le_of_ble_eq_true rfl⟩) (k_preV (q0 := 0) (ci := 5) hk hK NT_bl NT_u rfl rfl rfl) rfl rfl hl.1 rfl (lv_room (Nat.le_of_ble_eq_true rfl)) dX6_appendInteger_38 ⟨Nat.zero_le _, Nat.zero_le _⟩) hk hS (fun H locs hP hD hS => ?_)
  obtain rfl := Option.some.inj hf
  exact k_retV hx hb hr hlocks hP hS dX6_appendInteger_41

noncomputable def fX6_become (n : Nat) (n2 : Nat) (f : Nat → Int32) (ct : Int32) (f2 : Nat → Int32) (ct2 : Int32) : Option ((Nat → Int32) × Int32 × Int32) :=
  (fX6_appendRow n n2 f (0 : Int32) f2 ct2).bind fun R1 =>
  some (R1.1, R1.2, ct2)

set_option maxHeartbeats 4000000 in
set_option maxRecDepth 100000 in
theorem kX6_become (l : Launch) (D : va_G) (h : Nat) (a : Nat) (cA : ClassId) (h2 : Nat) (a2 : Nat) (cA2 : ClassId) (n : Nat) (n2 : Nat) (f : Nat → Int32) (ct : Int32) (f2 : Nat → Int32) (ct2 : Int32) {R : (Nat → Int32) × Int32 × Int32} (hf : fX6_become n n2 f ct f2 ct2 = some R) : MV l yX6_become wsX6_become (rmD 2) D ([.ref h, .ref h2] : List Value) (wRR h a cA n h2 a2 cA2 n2 f ct f2 ct2) [(cA, .int), (cA2, .int)] NT (wRR h a cA n h2 a2 cA2 n2 R.1 R.2.1 f2 R.2.2) := by
  refine MV.mk (cc := cX6_become) (maxL := 2) (ret := none) (by first | decide | decide +kernel) rfl (Nat.le_of_ble_eq_true rfl) ?_
  intro p e s m below meth cd A ls hE
  obtain ⟨hx, hb, hr, hml, hts, hown, hlocks, hP, hK, hD, hA, hN, hAe, hl⟩ := hE
  have hown : s.vm.findClass RX6 = some m.cls := hown
  have hS : va_S A s.heap s.heap [] := va_S.rf
  have hl : lv_has ls 2 [(0, .ref h), (1, .ref h2)] := hl
  rw [fX6_become] at hf
  refine lv_aload_n hx hb dX6_become_0 rfl (lv_at hl 0 rfl) ?_
  refine lv_iconst (v := (0 : Int32)) hx hb dX6_become_1 (by decide) ?_
  refine va_put (D := D) (ci := 5) (v := .int (0 : Int32)) (ty := .int) (C := RX6) (T := TX6) (N := 2) hx hb hts (fun w h => List.mem_cons_of_mem _ (List.mem_append_right _ h)) tyX6 tyX6_ok nmX6 hown hK hP hD hS 0 rfl rfl 1 (by decide) (hts (.fieldLink RX6 15 "DeltaWindows$Row" "count" "I") (List.mem_of_getElem? (i := 1) rfl)) (fun _ h9 => h9) rfl (by decide +kernel) rfl rfl (Nat.le_of_ble_eq_true rfl) dX6_become_2 (fun H locs hP hD hS => ?_)
  have hP : va_P D vwCl (wRR h a cA n h2 a2 cA2 n2 f (0 : Int32) f2 ct2) H := hP
  have hD : va_D A (wRR h a cA n h2 a2 cA2 n2 f (0 : Int32) f2 ct2) := hD
  refine lv_aload_n hx hb dX6_become_5 rfl (lv_at hl 0 rfl) ?_
  refine lv_aload_n hx hb dX6_become_6 rfl (lv_at hl 1 rfl) ?_
  obtain ⟨R1, hc2, hf⟩ := b_inv hf
  have hk := kall (wc' := (wRR h a cA n h2 a2 cA2 n2 R1.1 R1.2 f2 ct2)) hP hD hS hA rfl
  refine k_goV (va_runV (As := [.ref h2]) (rest := []) ⟨hx, hb, hml, hown, hts⟩ (kX6_appendRow l D h a cA h2 a2 cA2 n n2 f (0 : Int32) f2 ct2 hc2 _) (cwV 1 hts gX6_become_X6_appendRow rfl rfl rfl (by decide +kernel) ⟨Nat.le_of_ble_eq_true rfl, Nat.le_of_ble_eq_true rfl⟩) (k_preV (q0 := 0) (ci := 5) hk hK NT_bl NT_u rfl rfl rfl) rfl rfl hl.1 rfl (lv_room (Nat.le_of_ble_eq_true rfl)) dX6_become_7 ⟨Nat.zero_le _, Nat.zero_le _⟩) hk hS (fun H locs hP hD hS => ?_)
  obtain rfl := Option.some.inj hf
  exact k_retV hx hb hr hlocks hP hS dX6_become_10
end
section
noncomputable def fX5_open (n : Nat) (pl : Int32) (en : Int32) (f : Nat → Int32) (ct : Int32) (x1 : Int32) (x2 : Int32) : Option (Int32 × Int32) :=
  some ((if (0 : Int32) < (if ct < x1 then ct else x1) then (if ct < x1 then ct else x1) else (0 : Int32)), ((if (0 : Int32) < (if ct < x1 then ct else x1) then (if ct < x1 then ct else x1) else (0 : Int32)) + (if (0 : Int32) < (if (ct - (if (0 : Int32) < (if ct < x1 then ct else x1) then (if ct < x1 then ct else x1) else (0 : Int32))) < x2 then (ct - (if (0 : Int32) < (if ct < x1 then ct else x1) then (if ct < x1 then ct else x1) else (0 : Int32))) else x2) then (if (ct - (if (0 : Int32) < (if ct < x1 then ct else x1) then (if ct < x1 then ct else x1) else (0 : Int32))) < x2 then (ct - (if (0 : Int32) < (if ct < x1 then ct else x1) then (if ct < x1 then ct else x1) else (0 : Int32))) else x2) else (0 : Int32))))

set_option maxHeartbeats 4000000 in
set_option maxRecDepth 100000 in
theorem kX5_open (l : Launch) (D : va_G) (h : Nat) (r : Nat) (a : Nat) (cA : ClassId) (n : Nat) (pl : Int32) (en : Int32) (f : Nat → Int32) (ct : Int32) (x1 : Int32) (x2 : Int32) {R : Int32 × Int32} (hf : fX5_open n pl en f ct x1 x2 = some R) : MV l yX5_open wsX5_open (rmD 1) D ([.ref h, .int x1, .int x2] : List Value) (wD h r a cA n pl en f ct) [(cA, .int)] NR (wD h r a cA n R.1 R.2 f ct) := by
  refine MV.mk (cc := cX5_open) (maxL := 3) (ret := none) (by first | decide | decide +kernel) rfl (Nat.le_of_ble_eq_true rfl) ?_
  intro p e s m below meth cd A ls hE
  obtain ⟨hx, hb, hr, hml, hts, hown, hlocks, hP, hK, hD, hA, hN, hAe, hl⟩ := hE
  have hown : s.vm.findClass RX5 = some m.cls := hown
  have hS : va_S A s.heap s.heap [] := va_S.rf
  have hl : lv_has ls 3 [(0, .ref h), (1, .int x1), (2, .int x2)] := hl
  rw [fX5_open] at hf
  refine lv_aload_n hx hb dX5_open_0 rfl (lv_at hl 0 rfl) ?_
  refine lv_iconst (v := (0 : Int32)) hx hb dX5_open_1 (by decide) ?_
  refine lv_iload_n hx hb dX5_open_2 rfl (lv_at hl 1 rfl) ?_
  refine lv_aload_n hx hb dX5_open_3 rfl (lv_at hl 0 rfl) ?_
  refine va_get (D := D) (ci := 4) (v := .ref r) (C := RX5) (T := TX5) (N := 3) hx hb hts (fun w h => List.mem_cons_of_mem _ (List.mem_append_left _ (List.mem_append_right _ h))) hown hK hP 0 rfl rfl 0 (by decide) (hts (.fieldLink RX5 9 "DeltaWindows$Reader" "row" "LDeltaWindows$Row;") (List.mem_of_getElem? (i := 1) rfl)) (fun _ h9 => h9) rfl dX5_open_4 ?_
  refine va_getN (D := D) (ci := 5) (v := .int ct) (C := RX6) (T := TX6) (N := 2) hx hb hts (fun w h => List.mem_cons_of_mem _ (List.mem_append_right _ h)) hown hK hP 1 rfl rfl 1 (by decide) (va_Nw.use rfl hN.2) (fun _ h9 => h9) rfl dX5_open_7 ?_
  refine va_mmin hx hb (by rw [hml]; exact hl.1.symm) hown (hts (.methodLink RX5 27 Lib.Math.min.name) (List.mem_of_getElem? (i := 2) rfl)) (hts (.static Lib.Math.min.name) (List.mem_of_getElem? (i := 3) rfl)) (hts (.initialized "java/lang/Math") (List.mem_of_getElem? (i := 4) rfl)) (hts (.code Lib.Math.min.name Lib.Math.min.code 2 (some .int)) (List.mem_of_getElem? (i := 5) rfl)) (Nat.le_of_ble_eq_true rfl) (Nat.le_of_ble_eq_true rfl) (Nat.zero_le _) (Nat.zero_le _) dX5_open_10 ?_
  refine va_mmax hx hb (by rw [hml]; exact hl.1.symm) hown (hts (.methodLink RX5 33 Lib.Math.max.name) (List.mem_of_getElem? (i := 6) rfl)) (hts (.static Lib.Math.max.name) (List.mem_of_getElem? (i := 7) rfl)) (hts (.initialized "java/lang/Math") (List.mem_of_getElem? (i := 4) rfl)) (hts (.code Lib.Math.max.name Lib.Math.max.code 2 (some .int)) (List.mem_of_getElem? (i := 8) rfl)) (Nat.le_of_ble_eq_true rfl) (Nat.le_of_ble_eq_true rfl) (Nat.zero_le _) (Nat.zero_le _) dX5_open_13 ?_
  refine va_put (D := D) (ci := 4) (v := .int (if (0 : Int32) < (if ct < x1 then ct else x1) then (if ct < x1 then ct else x1) else (0 : Int32))) (ty := .int) (C := RX5) (T := TX5) (N := 3) hx hb hts (fun w h => List.mem_cons_of_mem _ (List.mem_append_left _ (List.mem_append_right _ h))) tyX5 tyX5_ok nmX5 hown hK hP hD hS 0 rfl rfl 1 (by decide) (hts (.fieldLink RX5 15 "DeltaWindows$Reader" "place" "I") (List.mem_of_getElem? (i := 9) rfl)) (fun _ h9 => h9) rfl (by decide +kernel) rfl rfl (Nat.le_of_ble_eq_true rfl) dX5_open_16 (fun H locs hP hD hS => ?_)
  have hP : va_P D vwCl (wD h r a cA n (if (0 : Int32) < (if ct < x1 then ct else x1) then (if ct < x1 then ct else x1) else (0 : Int32)) en f ct) H := hP
  have hD : va_D A (wD h r a cA n (if (0 : Int32) < (if ct < x1 then ct else x1) then (if ct < x1 then ct else x1) else (0 : Int32)) en f ct) := hD
  refine lv_aload_n hx hb dX5_open_19 rfl (lv_at hl 0 rfl) ?_
  refine lv_aload_n hx hb dX5_open_20 rfl (lv_at hl 0 rfl) ?_
  refine va_get (D := D) (ci := 4) (v := .int (if (0 : Int32) < (if ct < x1 then ct else x1) then (if ct < x1 then ct else x1) else (0 : Int32))) (C := RX5) (T := TX5) (N := 3) hx hb hts (fun w h => List.mem_cons_of_mem _ (List.mem_append_left _ (List.mem_append_right _ h))) hown hK hP 0 rfl rfl 1 (by decide) (hts (.fieldLink RX5 15 "DeltaWindows$Reader" "place" "I") (List.mem_of_getElem? (i := 9) rfl)) (fun _ h9 => h9) rfl dX5_open_21 ?_
  refine lv_iconst (v := (0 : Int32)) hx hb dX5_open_24 (by decide) ?_
  refine lv_iload_n hx hb dX5_open_25 rfl (lv_at hl 2 rfl) ?_
  refine lv_aload_n hx hb dX5_open_26 rfl (lv_at hl 0 rfl) ?_
  refine va_get (D := D) (ci := 4) (v := .ref r) (C := RX5) (T := TX5) (N := 3) hx hb hts (fun w h => List.mem_cons_of_mem _ (List.mem_append_left _ (List.mem_append_right _ h))) hown hK hP 0 rfl rfl 0 (by decide) (hts (.fieldLink RX5 9 "DeltaWindows$Reader" "row" "LDeltaWindows$Row;") (List.mem_of_getElem? (i := 1) rfl)) (fun _ h9 => h9) rfl dX5_open_27 ?_
  refine va_getN (D := D) (ci := 5) (v := .int ct) (C := RX6) (T := TX6) (N := 2) hx hb hts (fun w h => List.mem_cons_of_mem _ (List.mem_append_right _ h)) hown hK hP 1 rfl rfl 1 (by decide) (va_Nw.use rfl hN.2) (fun _ h9 => h9) rfl dX5_open_30 ?_
  refine lv_aload_n hx hb dX5_open_33 rfl (lv_at hl 0 rfl) ?_
  refine va_get (D := D) (ci := 4) (v := .int (if (0 : Int32) < (if ct < x1 then ct else x1) then (if ct < x1 then ct else x1) else (0 : Int32))) (C := RX5) (T := TX5) (N := 3) hx hb hts (fun w h => List.mem_cons_of_mem _ (List.mem_append_left _ (List.mem_append_right _ h))) hown hK hP 0 rfl rfl 1 (by decide) (hts (.fieldLink RX5 15 "DeltaWindows$Reader" "place" "I") (List.mem_of_getElem? (i := 9) rfl)) (fun _ h9 => h9) rfl dX5_open_34 ?_
  refine lv_isub hx hb dX5_open_37 ?_
  refine va_mmin hx hb (by rw [hml]; exact hl.1.symm) hown (hts (.methodLink RX5 27 Lib.Math.min.name) (List.mem_of_getElem? (i := 2) rfl)) (hts (.static Lib.Math.min.name) (List.mem_of_getElem? (i := 3) rfl)) (hts (.initialized "java/lang/Math") (List.mem_of_getElem? (i := 4) rfl)) (hts (.code Lib.Math.min.name Lib.Math.min.code 2 (some .int)) (List.mem_of_getElem? (i := 5) rfl)) (Nat.le_of_ble_eq_true rfl) (Nat.le_of_ble_eq_true rfl) (Nat.zero_le _) (Nat.zero_le _) dX5_open_38 ?_
  refine va_mmax hx hb (by rw [hml]; exact hl.1.symm) hown (hts (.methodLink RX5 33 Lib.Math.max.name) (List.mem_of_getElem? (i := 6) rfl)) (hts (.static Lib.Math.max.name) (List.mem_of_getElem? (i := 7) rfl)) (hts (.initialized "java/lang/Math") (List.mem_of_getElem? (i := 4) rfl)) (hts (.code Lib.Math.max.name Lib.Math.max.code 2 (some .int)) (List.mem_of_getElem? (i := 8) rfl)) (Nat.le_of_ble_eq_true rfl) (Nat.le_of_ble_eq_true rfl) (Nat.zero_le _) (Nat.zero_le _) dX5_open_41 ?_
  refine lv_iadd hx hb dX5_open_44 ?_
  refine va_put (D := D) (ci := 4) (v := .int ((if (0 : Int32) < (if ct < x1 then ct else x1) then (if ct < x1 then ct else x1) else (0 : Int32)) + (if (0 : Int32) < (if (ct - (if (0 : Int32) < (if ct < x1 then ct else x1) then (if ct < x1 then ct else x1) else (0 : Int32))) < x2 then (ct - (if (0 : Int32) < (if ct < x1 then ct else x1) then (if ct < x1 then ct else x1) else (0 : Int32))) else x2) then (if (ct - (if (0 : Int32) < (if ct < x1 then ct else x1) then (if ct < x1 then ct else x1) else (0 : Int32))) < x2 then (ct - (if (0 : Int32) < (if ct < x1 then ct else x1) then (if ct < x1 then ct else x1) else (0 : Int32))) else x2) else (0 : Int32)))) (ty := .int) (C := RX5) (T := TX5) (N := 3) hx hb hts (fun w h => List.mem_cons_of_mem _ (List.mem_append_left _ (List.mem_append_right _ h))) tyX5 tyX5_ok nmX5 hown hK hP hD hS 0 rfl rfl 2 (by decide) (hts (.fieldLink RX5 19 "DeltaWindows$Reader" "end" "I") (List.mem_of_getElem? (i := 10) rfl)) (fun _ h9 => h9) rfl (by decide +kernel) rfl rfl (Nat.le_of_ble_eq_true rfl) dX5_open_45 (fun H locs hP hD hS => ?_)
  have hP : va_P D vwCl (wD h r a cA n (if (0 : Int32) < (if ct < x1 then ct else x1) then (if ct < x1 then ct else x1) else (0 : Int32)) ((if (0 : Int32) < (if ct < x1 then ct else x1) then (if ct < x1 then ct else x1) else (0 : Int32)) + (if (0 : Int32) < (if (ct - (if (0 : Int32) < (if ct < x1 then ct else x1) then (if ct < x1 then ct else x1) else (0 : Int32))) < x2 then (ct - (if (0 : Int32) < (if ct < x1 then ct else x1) then (if ct < x1 then ct else x1) else (0 : Int32))) else x2) then (if (ct - (if (0 : Int32) < (if ct < x1 then ct else x1) then (if ct < x1 then ct else x1) else (0 : Int32))) < x2 then (ct - (if (0 : Int32) < (if ct < x1 then ct else x1) then (if ct < x1 then ct else x1) else (0 : Int32))) else x2) else (0 : Int32))) f ct) H := hP
  have hD : va_D A (wD h r a cA n (if (0 : Int32) < (if ct < x1 then ct else x1) then (if ct < x1 then ct else x1) else (0 : Int32)) ((if (0 : Int32) < (if ct < x1 then ct else x1) then (if ct < x1 then ct else x1) else (0 : Int32)) + (if (0 : Int32) < (if (ct - (if (0 : Int32) < (if ct < x1 then ct else x1) then (if ct < x1 then ct else x1) else (0 : Int32))) < x2 then (ct - (if (0 : Int32) < (if ct < x1 then ct else x1) then (if ct < x1 then ct else x1) else (0 : Int32))) else x2) then (if (ct - (if (0 : Int32) < (if ct < x1 then ct else x1) then (if ct < x1 then ct else x1) else (0 : Int32))) < x2 then (ct - (if (0 : Int32) < (if ct < x1 then ct else x1) then (if ct < x1 then ct else x1) else (0 : Int32))) else x2) else (0 : Int32))) f ct) := hD
  obtain rfl := Option.some.inj hf
  exact k_retV hx hb hr hlocks hP hS dX5_open_48

noncomputable def fX5_place (n : Nat) (pl : Int32) (en : Int32) (f : Nat → Int32) (ct : Int32) : Option (Int32) :=
  some pl

set_option maxHeartbeats 4000000 in
set_option maxRecDepth 100000 in
theorem kX5_place (l : Launch) (D : va_G) (h : Nat) (r : Nat) (a : Nat) (cA : ClassId) (n : Nat) (pl : Int32) (en : Int32) (f : Nat → Int32) (ct : Int32) {R : Int32} (hf : fX5_place n pl en f ct = some R) : MI l yX5_place wsX5_place (rmD 0) D ([.ref h] : List Value) (wD h r a cA n pl en f ct) [(cA, .int)] NR R (wD h r a cA n pl en f ct) := by
  refine MI.mk (cc := cX5_place) (maxL := 1) (ret := (some .int)) (by first | decide | decide +kernel) rfl (Nat.le_of_ble_eq_true rfl) ?_
  intro p e s m below meth cd A ls hE
  obtain ⟨hx, hb, hr, hml, hts, hown, hlocks, hP, hK, hD, hA, hN, hAe, hl⟩ := hE
  have hown : s.vm.findClass RX5 = some m.cls := hown
  have hS : va_S A s.heap s.heap [] := va_S.rf
  have hl : lv_has ls 1 [(0, .ref h)] := hl
  rw [fX5_place] at hf
  refine lv_aload_n hx hb dX5_place_0 rfl (lv_at hl 0 rfl) ?_
  refine va_get (D := D) (ci := 4) (v := .int pl) (C := RX5) (T := TX5) (N := 3) hx hb hts (fun w h => List.mem_cons_of_mem _ (List.mem_append_right _ h)) hown hK hP 0 rfl rfl 1 (by decide) (hts (.fieldLink RX5 15 "DeltaWindows$Reader" "place" "I") (List.mem_of_getElem? (i := 1) rfl)) (fun _ h9 => h9) rfl dX5_place_1 ?_
  obtain rfl := Option.some.inj hf
  exact k_retI hx hb hr hlocks hP hS dX5_place_4

noncomputable def fX5_left (n : Nat) (pl : Int32) (en : Int32) (f : Nat → Int32) (ct : Int32) : Option (Int32) :=
  some (en - pl)

set_option maxHeartbeats 4000000 in
set_option maxRecDepth 100000 in
theorem kX5_left (l : Launch) (D : va_G) (h : Nat) (r : Nat) (a : Nat) (cA : ClassId) (n : Nat) (pl : Int32) (en : Int32) (f : Nat → Int32) (ct : Int32) {R : Int32} (hf : fX5_left n pl en f ct = some R) : MI l yX5_left wsX5_left (rmD 0) D ([.ref h] : List Value) (wD h r a cA n pl en f ct) [(cA, .int)] NR R (wD h r a cA n pl en f ct) := by
  refine MI.mk (cc := cX5_left) (maxL := 1) (ret := (some .int)) (by first | decide | decide +kernel) rfl (Nat.le_of_ble_eq_true rfl) ?_
  intro p e s m below meth cd A ls hE
  obtain ⟨hx, hb, hr, hml, hts, hown, hlocks, hP, hK, hD, hA, hN, hAe, hl⟩ := hE
  have hown : s.vm.findClass RX5 = some m.cls := hown
  have hS : va_S A s.heap s.heap [] := va_S.rf
  have hl : lv_has ls 1 [(0, .ref h)] := hl
  rw [fX5_left] at hf
  refine lv_aload_n hx hb dX5_left_0 rfl (lv_at hl 0 rfl) ?_
  refine va_get (D := D) (ci := 4) (v := .int en) (C := RX5) (T := TX5) (N := 3) hx hb hts (fun w h => List.mem_cons_of_mem _ (List.mem_append_right _ h)) hown hK hP 0 rfl rfl 2 (by decide) (hts (.fieldLink RX5 19 "DeltaWindows$Reader" "end" "I") (List.mem_of_getElem? (i := 1) rfl)) (fun _ h9 => h9) rfl dX5_left_1 ?_
  refine lv_aload_n hx hb dX5_left_4 rfl (lv_at hl 0 rfl) ?_
  refine va_get (D := D) (ci := 4) (v := .int pl) (C := RX5) (T := TX5) (N := 3) hx hb hts (fun w h => List.mem_cons_of_mem _ (List.mem_append_right _ h)) hown hK hP 0 rfl rfl 1 (by decide) (hts (.fieldLink RX5 15 "DeltaWindows$Reader" "place" "I") (List.mem_of_getElem? (i := 2) rfl)) (fun _ h9 => h9) rfl dX5_left_5 ?_
  refine lv_isub hx hb dX5_left_8 ?_
  obtain rfl := Option.some.inj hf
  exact k_retI hx hb hr hlocks hP hS dX5_left_9

noncomputable def fX5_nextByte (n : Nat) (pl : Int32) (en : Int32) (f : Nat → Int32) (ct : Int32) : Option (Int32 × Int32) :=
  if pl < 0 then
    some ((-1 : Int32), pl)
  else
    if en ≤ pl then
      some ((-1 : Int32), pl)
    else
      if pl < (nI n) then
        if inb pl n = true then
        some ((f pl.toNatClampNeg), (pl + (1 : Int32)))
        else none
      else
        some ((-1 : Int32), pl)

set_option maxHeartbeats 4000000 in
set_option maxRecDepth 100000 in
theorem kX5_nextByte (l : Launch) (D : va_G) (h : Nat) (r : Nat) (a : Nat) (cA : ClassId) (n : Nat) (pl : Int32) (en : Int32) (f : Nat → Int32) (ct : Int32) {R : Int32 × Int32} (hf : fX5_nextByte n pl en f ct = some R) : MI l yX5_nextByte wsX5_nextByte (rmD 0) D ([.ref h] : List Value) (wD h r a cA n pl en f ct) [(cA, .int)] NR R.1 (wD h r a cA n R.2 en f ct) := by
  refine MI.mk (cc := cX5_nextByte) (maxL := 2) (ret := (some .int)) (by first | decide | decide +kernel) rfl (Nat.le_of_ble_eq_true rfl) ?_
  intro p e s m below meth cd A ls hE
  obtain ⟨hx, hb, hr, hml, hts, hown, hlocks, hP, hK, hD, hA, hN, hAe, hl⟩ := hE
  have hown : s.vm.findClass RX5 = some m.cls := hown
  have hS : va_S A s.heap s.heap [] := va_S.rf
  have hl : lv_has ls 2 [(0, .ref h)] := hl
  rw [fX5_nextByte] at hf
  refine lv_aload_n hx hb dX5_nextByte_0 rfl (lv_at hl 0 rfl) ?_
  refine va_get (D := D) (ci := 4) (v := .int pl) (C := RX5) (T := TX5) (N := 3) hx hb hts (fun w h => List.mem_cons_of_mem _ (List.mem_append_left _ (List.mem_append_right _ h))) hown hK hP 0 rfl rfl 1 (by decide) (hts (.fieldLink RX5 15 "DeltaWindows$Reader" "place" "I") (List.mem_of_getElem? (i := 1) rfl)) (fun _ h9 => h9) rfl dX5_nextByte_1 ?_
  refine lv_if_lt (tgt := 33) hx hb dX5_nextByte_4 (by decide) (fun c1 => ?_) (fun c1 => ?_)
  · rw [if_pos c1] at hf
    refine lv_iconst (v := (-1 : Int32)) hx hb dX5_nextByte_33 (by decide) ?_
    obtain rfl := Option.some.inj hf
    exact k_retI hx hb hr hlocks hP hS dX5_nextByte_34
  · rw [if_neg c1] at hf
    refine lv_aload_n hx hb dX5_nextByte_7 rfl (lv_at hl 0 rfl) ?_
    refine va_get (D := D) (ci := 4) (v := .int pl) (C := RX5) (T := TX5) (N := 3) hx hb hts (fun w h => List.mem_cons_of_mem _ (List.mem_append_left _ (List.mem_append_right _ h))) hown hK hP 0 rfl rfl 1 (by decide) (hts (.fieldLink RX5 15 "DeltaWindows$Reader" "place" "I") (List.mem_of_getElem? (i := 1) rfl)) (fun _ h9 => h9) rfl dX5_nextByte_8 ?_
    refine lv_aload_n hx hb dX5_nextByte_11 rfl (lv_at hl 0 rfl) ?_
    refine va_get (D := D) (ci := 4) (v := .int en) (C := RX5) (T := TX5) (N := 3) hx hb hts (fun w h => List.mem_cons_of_mem _ (List.mem_append_left _ (List.mem_append_right _ h))) hown hK hP 0 rfl rfl 2 (by decide) (hts (.fieldLink RX5 19 "DeltaWindows$Reader" "end" "I") (List.mem_of_getElem? (i := 2) rfl)) (fun _ h9 => h9) rfl dX5_nextByte_12 ?_
    refine lv_icmp_ge (tgt := 33) hx hb dX5_nextByte_15 (by decide) (fun c2 => ?_) (fun c2 => ?_)
    · rw [if_pos c2] at hf
      refine lv_iconst (v := (-1 : Int32)) hx hb dX5_nextByte_33 (by decide) ?_
      obtain rfl := Option.some.inj hf
      exact k_retI hx hb hr hlocks hP hS dX5_nextByte_34
    · rw [if_neg c2] at hf
      refine lv_aload_n hx hb dX5_nextByte_18 rfl (lv_at hl 0 rfl) ?_
      refine va_get (D := D) (ci := 4) (v := .int pl) (C := RX5) (T := TX5) (N := 3) hx hb hts (fun w h => List.mem_cons_of_mem _ (List.mem_append_left _ (List.mem_append_right _ h))) hown hK hP 0 rfl rfl 1 (by decide) (hts (.fieldLink RX5 15 "DeltaWindows$Reader" "place" "I") (List.mem_of_getElem? (i := 1) rfl)) (fun _ h9 => h9) rfl dX5_nextByte_19 ?_
      refine lv_aload_n hx hb dX5_nextByte_22 rfl (lv_at hl 0 rfl) ?_
      refine va_get (D := D) (ci := 4) (v := .ref r) (C := RX5) (T := TX5) (N := 3) hx hb hts (fun w h => List.mem_cons_of_mem _ (List.mem_append_left _ (List.mem_append_right _ h))) hown hK hP 0 rfl rfl 0 (by decide) (hts (.fieldLink RX5 9 "DeltaWindows$Reader" "row" "LDeltaWindows$Row;") (List.mem_of_getElem? (i := 3) rfl)) (fun _ h9 => h9) rfl dX5_nextByte_23 ?_
      refine va_getN (D := D) (ci := 5) (v := .ref a) (C := RX6) (T := TX6) (N := 2) hx hb hts (fun w h => List.mem_cons_of_mem _ (List.mem_append_right _ h)) hown hK hP 1 rfl rfl 0 (by decide) (va_Nw.use rfl hN.1) (fun _ h9 => h9) rfl dX5_nextByte_26 ?_
      refine va_alen (v := (nI n)) hx hb hK hP 2 0 rfl rfl rfl dX5_nextByte_29 ?_
      refine lv_icmp_lt (tgt := 35) hx hb dX5_nextByte_30 (by decide) (fun c3 => ?_) (fun c3 => ?_)
      · rw [if_pos c3] at hf
        refine lv_aload_n hx hb dX5_nextByte_35 rfl (lv_at hl 0 rfl) ?_
        refine va_get (D := D) (ci := 4) (v := .ref r) (C := RX5) (T := TX5) (N := 3) hx hb hts (fun w h => List.mem_cons_of_mem _ (List.mem_append_left _ (List.mem_append_right _ h))) hown hK hP 0 rfl rfl 0 (by decide) (hts (.fieldLink RX5 9 "DeltaWindows$Reader" "row" "LDeltaWindows$Row;") (List.mem_of_getElem? (i := 3) rfl)) (fun _ h9 => h9) rfl dX5_nextByte_36 ?_
        refine va_getN (D := D) (ci := 5) (v := .ref a) (C := RX6) (T := TX6) (N := 2) hx hb hts (fun w h => List.mem_cons_of_mem _ (List.mem_append_right _ h)) hown hK hP 1 rfl rfl 0 (by decide) (va_Nw.use rfl hN.1) (fun _ h9 => h9) rfl dX5_nextByte_39 ?_
        refine lv_aload_n hx hb dX5_nextByte_42 rfl (lv_at hl 0 rfl) ?_
        refine va_get (D := D) (ci := 4) (v := .int pl) (C := RX5) (T := TX5) (N := 3) hx hb hts (fun w h => List.mem_cons_of_mem _ (List.mem_append_left _ (List.mem_append_right _ h))) hown hK hP 0 rfl rfl 1 (by decide) (hts (.fieldLink RX5 15 "DeltaWindows$Reader" "place" "I") (List.mem_of_getElem? (i := 1) rfl)) (fun _ h9 => h9) rfl dX5_nextByte_43 ?_
        obtain ⟨g4, hf⟩ := g_inv hf
        refine va_iald hx hb hK hP 2 0 rfl rfl (inb_vp g4) dX5_nextByte_46 ?_
        refine lv_istore_n (lv' := [(1, .int (f pl.toNatClampNeg)), (0, .ref h)]) hx hb dX5_nextByte_47 rfl hl (by decide) rfl (fun ls hl => ?_)
        refine lv_aload_n hx hb dX5_nextByte_48 rfl (lv_at hl 1 rfl) ?_
        refine lv_dup hx hb dX5_nextByte_49 rfl ?_
        refine va_get (D := D) (ci := 4) (v := .int pl) (C := RX5) (T := TX5) (N := 3) hx hb hts (fun w h => List.mem_cons_of_mem _ (List.mem_append_left _ (List.mem_append_right _ h))) hown hK hP 0 rfl rfl 1 (by decide) (hts (.fieldLink RX5 15 "DeltaWindows$Reader" "place" "I") (List.mem_of_getElem? (i := 1) rfl)) (fun _ h9 => h9) rfl dX5_nextByte_50 ?_
        refine lv_iconst (v := (1 : Int32)) hx hb dX5_nextByte_53 (by decide) ?_
        refine lv_iadd hx hb dX5_nextByte_54 ?_
        refine va_put (D := D) (ci := 4) (v := .int (pl + (1 : Int32))) (ty := .int) (C := RX5) (T := TX5) (N := 3) hx hb hts (fun w h => List.mem_cons_of_mem _ (List.mem_append_left _ (List.mem_append_right _ h))) tyX5 tyX5_ok nmX5 hown hK hP hD hS 0 rfl rfl 1 (by decide) (hts (.fieldLink RX5 15 "DeltaWindows$Reader" "place" "I") (List.mem_of_getElem? (i := 1) rfl)) (fun _ h9 => h9) rfl (by decide +kernel) rfl rfl (Nat.le_of_ble_eq_true rfl) dX5_nextByte_55 (fun H locs hP hD hS => ?_)
        have hP : va_P D vwCl (wD h r a cA n (pl + (1 : Int32)) en f ct) H := hP
        have hD : va_D A (wD h r a cA n (pl + (1 : Int32)) en f ct) := hD
        refine lv_iload_n hx hb dX5_nextByte_58 rfl (lv_at hl 0 rfl) ?_
        obtain rfl := Option.some.inj hf
        exact k_retI hx hb hr hlocks hP hS dX5_nextByte_59
      · rw [if_neg c3] at hf
        refine lv_iconst (v := (-1 : Int32)) hx hb dX5_nextByte_33 (by decide) ?_
        obtain rfl := Option.some.inj hf
        exact k_retI hx hb hr hlocks hP hS dX5_nextByte_34

noncomputable def fX5_nextInteger_L4 (n : Nat) (en : Int32) (f : Nat → Int32) (ct : Int32) : Nat → (Int64) → (Int32) → (Int32) → Option ((Int32) ⊕ (Int32 × Int32))
  | 0, _, _, _ => none
  | k + 1, v1, v3, pl =>
    if (5 : Int32) ≤ v3 then
      some (Sum.inl pl)
    else
      (fX5_nextByte n pl en f ct).bind fun R2 =>
      if R2.1 = (-1 : Int32) then
        some (Sum.inr ((-1 : Int32), R2.2))
      else
        if (128 : Int32) ≤ R2.1 then
          fX5_nextInteger_L4 n en f ct k ((v1 * (128 : Int64)) + (R2.1 &&& (127 : Int32)).toInt64) (v3 + (1 : Int32)) R2.2
        else
          if (lg_cmp ((v1 * (128 : Int64)) + (R2.1 &&& (127 : Int32)).toInt64) (2147483647 : Int64)) ≤ 0 then
            some (Sum.inr (((v1 * (128 : Int64)) + (R2.1 &&& (127 : Int32)).toInt64).toInt32, R2.2))
          else
            some (Sum.inr ((-1 : Int32), R2.2))

noncomputable def fX5_nextInteger (n : Nat) (pl : Int32) (en : Int32) (f : Nat → Int32) (ct : Int32) : Option (Int32 × Int32) :=
  (fX5_nextInteger_L4 n en f ct FU (0 : Int64) (0 : Int32) pl).bind fun R7o => Sum.elim (fun R7 =>
    some ((-1 : Int32), R7)) (fun r => some r) R7o

set_option maxHeartbeats 4000000 in
set_option maxRecDepth 100000 in
theorem kX5_nextInteger (l : Launch) (D : va_G) (h : Nat) (r : Nat) (a : Nat) (cA : ClassId) (n : Nat) (pl : Int32) (en : Int32) (f : Nat → Int32) (ct : Int32) {R : Int32 × Int32} (hf : fX5_nextInteger n pl en f ct = some R) : MI l yX5_nextInteger wsX5_nextInteger (rmD 1) D ([.ref h] : List Value) (wD h r a cA n pl en f ct) [(cA, .int)] NR R.1 (wD h r a cA n R.2 en f ct) := by
  refine MI.mk (cc := cX5_nextInteger) (maxL := 5) (ret := (some .int)) (by first | decide | decide +kernel) rfl (Nat.le_of_ble_eq_true rfl) ?_
  intro p e s m below meth cd A ls hE
  obtain ⟨hx, hb, hr, hml, hts, hown, hlocks, hP, hK, hD, hA, hN, hAe, hl⟩ := hE
  have hown : s.vm.findClass RX5 = some m.cls := hown
  have hS : va_S A s.heap s.heap [] := va_S.rf
  have hl : lv_has ls 5 [(0, .ref h)] := hl
  rw [fX5_nextInteger] at hf
  refine lv_lconst (v := (0 : Int64)) hx hb dX5_nextInteger_0 (by decide) ?_
  refine lv_lstore_n (lv' := [(1, .long (0 : Int64)), (0, .ref h)]) hx hb dX5_nextInteger_1 rfl hl (by decide) rfl (fun ls hl => ?_)
  refine lv_iconst (v := (0 : Int32)) hx hb dX5_nextInteger_2 (by decide) ?_
  refine lv_istore_n (lv' := [(3, .int (0 : Int32)), (1, .long (0 : Int64)), (0, .ref h)]) hx hb dX5_nextInteger_3 rfl hl (by decide) rfl (fun ls hl => ?_)
  have lp9 : ∀ (en : Int32) (f : Nat → Int32) (ct : Int32), ∀ (k : Nat) (v1 : Int64) (v3 : Int32) (pl : Int32) (H : Heap) (locs : List Loc) (ls : Array Slot) (o : (Int32) ⊕ (Int32 × Int32)), lv_has ls 5 [(1, .long v1), (3, .int v3), (0, .ref h)] → va_P D vwCl (wD h r a cA n pl en f ct) H → va_D A (wD h r a cA n pl en f ct) → va_S A s.heap H locs → fX5_nextInteger_L4 n en f ct k v1 v3 pl = some o → (∀ o1 : Int32, o = Sum.inl o1 → (∀ (H : Heap) (locs : List Loc) (ls : Array Slot), lv_has ls 5 [] → va_P D vwCl (wD h r a cA n o1 en f ct) H → va_D A (wD h r a cA n o1 en f ct) → va_S A s.heap H locs → W p l e (headSpec wsX5_nextInteger (rmD 1)).room s m ([.ref h] : List Value).toArray below meth cd H locs 0 0 (QI D below ([.ref h] : List Value).toArray s A R.1 (wD h r a cA n R.2 en f ct)) (F0 m 65 ls []))) → (∀ r, o = Sum.inr r → some r = some R) → W p l e (headSpec wsX5_nextInteger (rmD 1)).room s m ([.ref h] : List Value).toArray below meth cd H locs 0 0 (QI D below ([.ref h] : List Value).toArray s A R.1 (wD h r a cA n R.2 en f ct)) (F0 m 4 ls []) := by
    intro en f ct
    intro k
    induction k with
    | zero =>
      intro v1 v3 pl H locs ls o hl hP hD hS hf
      exact absurd hf (by simp [fX5_nextInteger_L4])
    | succ k ih =>
      intro v1 v3 pl H locs ls o hl hP hD hS hf kont kr
      rw [fX5_nextInteger_L4] at hf
      refine lv_iload_n hx hb dX5_nextInteger_4 rfl (lv_at hl 1 rfl) ?_
      refine lv_iconst (v := (5 : Int32)) hx hb dX5_nextInteger_5 (by decide) ?_
      refine lv_icmp_ge (tgt := 65) hx hb dX5_nextInteger_6 (by decide) (fun c1 => ?_) (fun c1 => ?_)
      · rw [if_pos c1] at hf
        obtain rfl := Option.some.inj hf
        exact kont _ rfl _ _ _ (lv_sub hl [] rfl) hP hD hS
      · rw [if_neg c1] at hf
        refine lv_aload_n hx hb dX5_nextInteger_9 rfl (lv_at hl 2 rfl) ?_
        obtain ⟨R2, hc3, hf⟩ := b_inv hf
        have hk := kall (wc' := (wD h r a cA n R2.2 en f ct)) hP hD hS hA rfl
        refine k_goI (va_runV (As := []) (rest := []) ⟨hx, hb, hml, hown, hts⟩ (kX5_nextByte l D h r a cA n pl en f ct hc3 _) (cwV 0 hts gX5_nextInteger_X5_nextByte rfl rfl rfl (by decide +kernel) ⟨Nat.le_of_ble_eq_true rfl, Nat.le_of_ble_eq_true rfl⟩) (k_preV (q0 := 0) (ci := 4) hk hK NR_bl (fun U _ hW => NR_w hW hN) rfl rfl rfl) rfl rfl hl.1 rfl (lv_room (Nat.le_of_ble_eq_true rfl)) dX5_nextInteger_10 ⟨Nat.zero_le _, Nat.zero_le _⟩) hk hS (fun H locs hP hD hS => ?_)
        refine lv_istore (lv' := [(4, .int R2.1), (1, .long v1), (3, .int v3), (0, .ref h)]) hx hb dX5_nextInteger_13 hl (by decide) rfl (fun ls hl => ?_)
        refine lv_iload hx hb dX5_nextInteger_15 (lv_at hl 0 rfl) ?_
        refine lv_iconst (v := (-1 : Int32)) hx hb dX5_nextInteger_17 (by decide) ?_
        refine lv_icmp_ne (tgt := 23) hx hb dX5_nextInteger_18 (by decide) (fun c4 => ?_) (fun c4 => ?_)
        · rw [if_neg c4] at hf
          refine lv_lload_n hx hb dX5_nextInteger_23 rfl (lv_at hl 1 rfl) ?_
          refine lv_ldc2 (v := (128 : Int64)) hx hb hown (hts (.constantLong RX5 44 (128)) (List.mem_of_getElem? (i := 1) rfl)) dX5_nextInteger_24 ?_
          refine lv_lmul hx hb dX5_nextInteger_27 ?_
          refine lv_iload hx hb dX5_nextInteger_28 (lv_at hl 0 rfl) ?_
          refine lv_bipush (v := (127 : Int32)) hx hb dX5_nextInteger_30 (by decide) ?_
          refine lv_iand hx hb dX5_nextInteger_32 ?_
          refine lv_i2l (v := (R2.1 &&& (127 : Int32)).toInt64) hx hb dX5_nextInteger_33 rfl ?_
          refine lv_ladd hx hb dX5_nextInteger_34 ?_
          refine lv_lstore_n (lv' := [(1, .long ((v1 * (128 : Int64)) + (R2.1 &&& (127 : Int32)).toInt64)), (4, .int R2.1), (3, .int v3), (0, .ref h)]) hx hb dX5_nextInteger_35 rfl hl (by decide) rfl (fun ls hl => ?_)
          refine lv_iload hx hb dX5_nextInteger_36 (lv_at hl 1 rfl) ?_
          refine lv_sipush (v := (128 : Int32)) hx hb dX5_nextInteger_38 (by decide) ?_
          refine lv_icmp_ge (tgt := 59) hx hb dX5_nextInteger_41 (by decide) (fun c5 => ?_) (fun c5 => ?_)
          · rw [if_pos c5] at hf
            refine lv_iinc (v := (v3 + (1 : Int32))) (lv' := [(3, .int (v3 + (1 : Int32))), (1, .long ((v1 * (128 : Int64)) + (R2.1 &&& (127 : Int32)).toInt64)), (4, .int R2.1), (0, .ref h)]) hx hb dX5_nextInteger_59 hl (k := 2) rfl rfl (by decide) rfl (fun ls hl => ?_)
            refine lv_goto (tgt := 4) hx hb dX5_nextInteger_62 (by decide) ?_
            exact ih ((v1 * (128 : Int64)) + (R2.1 &&& (127 : Int32)).toInt64) (v3 + (1 : Int32)) R2.2 _ _ _ o (lv_sub hl [1, 0, 3] rfl) hP hD hS hf kont kr
          · rw [if_neg c5] at hf
            refine lv_lload_n hx hb dX5_nextInteger_44 rfl (lv_at hl 0 rfl) ?_
            refine lv_ldc2 (v := (2147483647 : Int64)) hx hb hown (hts (.constantLong RX5 46 (2147483647)) (List.mem_of_getElem? (i := 2) rfl)) dX5_nextInteger_45 ?_
            refine W.lcmp hx hb dX5_nextInteger_48 ?_
            refine lv_if_le (tgt := 56) hx hb dX5_nextInteger_49 (by decide) (fun c6 => ?_) (fun c6 => ?_)
            · rw [if_pos c6] at hf
              refine lv_lload_n hx hb dX5_nextInteger_56 rfl (lv_at hl 0 rfl) ?_
              refine lv_l2i (v := ((v1 * (128 : Int64)) + (R2.1 &&& (127 : Int32)).toInt64).toInt32) hx hb dX5_nextInteger_57 rfl ?_
              obtain rfl := Option.some.inj hf
              have hf9 := kr _ rfl
              obtain rfl := Option.some.inj hf9
              exact k_retI hx hb hr hlocks hP hS dX5_nextInteger_58
            · rw [if_neg c6] at hf
              refine lv_iconst (v := (-1 : Int32)) hx hb dX5_nextInteger_52 (by decide) ?_
              refine lv_goto (tgt := 58) hx hb dX5_nextInteger_53 (by decide) ?_
              obtain rfl := Option.some.inj hf
              have hf9 := kr _ rfl
              obtain rfl := Option.some.inj hf9
              exact k_retI hx hb hr hlocks hP hS dX5_nextInteger_58
        · rw [if_pos c4] at hf
          refine lv_iconst (v := (-1 : Int32)) hx hb dX5_nextInteger_21 (by decide) ?_
          obtain rfl := Option.some.inj hf
          have hf9 := kr _ rfl
          obtain rfl := Option.some.inj hf9
          exact k_retI hx hb hr hlocks hP hS dX5_nextInteger_22
  obtain ⟨R7o, hc8, hf⟩ := b_inv hf
  refine lp9 en f ct FU (0 : Int64) (0 : Int32) pl _ _ _ R7o (lv_sub hl [1, 0, 2] rfl) hP hD hS hc8 (fun R7 ho H locs ls hl hP hD hS => ?_) (fun r ho => ?_)
  · subst ho
    simp only [Sum.elim_inl] at hf
    refine lv_iconst (v := (-1 : Int32)) hx hb dX5_nextInteger_65 (by decide) ?_
    obtain rfl := Option.some.inj hf
    exact k_retI hx hb hr hlocks hP hS dX5_nextInteger_66
  · subst ho
    simpa only [Sum.elim_inr] using hf
end
section
noncomputable def fX0_near (fn : Nat → Int32) (fs : Nat → Int32) (cp : Int32) (x1 : Int32) : Option (Int32) :=
  if x1 < 0 then
    some (0 : Int32)
  else
    if (4 : Int32) ≤ x1 then
      some (0 : Int32)
    else
      if inb x1 4 = true then
      some (fn x1.toNatClampNeg)
      else none

set_option maxHeartbeats 4000000 in
set_option maxRecDepth 100000 in
theorem kX0_near (l : Launch) (D : va_G) (h : Nat) (an : Nat) (az : Nat) (cN : ClassId) (cS : ClassId) (fn : Nat → Int32) (fs : Nat → Int32) (cp : Int32) (x1 : Int32) {R : Int32} (hf : fX0_near fn fs cp x1 = some R) : MI l yX0_near wsX0_near (rmD 0) D ([.ref h, .int x1] : List Value) (wC h an az cN cS fn fs cp) [(cN, .int), (cS, .int)] NT R (wC h an az cN cS fn fs cp) := by
  refine MI.mk (cc := cX0_near) (maxL := 2) (ret := (some .int)) (by first | decide | decide +kernel) rfl (Nat.le_of_ble_eq_true rfl) ?_
  intro p e s m below meth cd A ls hE
  obtain ⟨hx, hb, hr, hml, hts, hown, hlocks, hP, hK, hD, hA, hN, hAe, hl⟩ := hE
  have hown : s.vm.findClass RX0 = some m.cls := hown
  have hS : va_S A s.heap s.heap [] := va_S.rf
  have hl : lv_has ls 2 [(0, .ref h), (1, .int x1)] := hl
  rw [fX0_near] at hf
  refine lv_iload_n hx hb dX0_near_0 rfl (lv_at hl 1 rfl) ?_
  refine lv_if_lt (tgt := 18) hx hb dX0_near_1 (by decide) (fun c1 => ?_) (fun c1 => ?_)
  · rw [if_pos c1] at hf
    refine lv_iconst (v := (0 : Int32)) hx hb dX0_near_18 (by decide) ?_
    obtain rfl := Option.some.inj hf
    exact k_retI hx hb hr hlocks hP hS dX0_near_19
  · rw [if_neg c1] at hf
    refine lv_iload_n hx hb dX0_near_4 rfl (lv_at hl 1 rfl) ?_
    refine lv_iconst (v := (4 : Int32)) hx hb dX0_near_5 (by decide) ?_
    refine lv_icmp_ge (tgt := 18) hx hb dX0_near_6 (by decide) (fun c2 => ?_) (fun c2 => ?_)
    · rw [if_pos c2] at hf
      refine lv_iconst (v := (0 : Int32)) hx hb dX0_near_18 (by decide) ?_
      obtain rfl := Option.some.inj hf
      exact k_retI hx hb hr hlocks hP hS dX0_near_19
    · rw [if_neg c2] at hf
      refine lv_aload_n hx hb dX0_near_9 rfl (lv_at hl 0 rfl) ?_
      refine va_get (D := D) (ci := 0) (v := .ref an) (C := RX0) (T := TX0) (N := 3) hx hb hts (fun w h => List.mem_cons_of_mem _ (List.mem_append_right _ h)) hown hK hP 0 rfl rfl 0 (by decide) (hts (.fieldLink RX0 9 "DeltaWindows$Caches" "near" "[I") (List.mem_of_getElem? (i := 1) rfl)) (fun _ h9 => h9) rfl dX0_near_10 ?_
      refine lv_iload_n hx hb dX0_near_13 rfl (lv_at hl 1 rfl) ?_
      obtain ⟨g3, hf⟩ := g_inv hf
      refine va_iald hx hb hK hP 1 0 rfl rfl (inb_vp g3) dX0_near_14 ?_
      refine lv_goto (tgt := 19) hx hb dX0_near_15 (by decide) ?_
      obtain rfl := Option.some.inj hf
      exact k_retI hx hb hr hlocks hP hS dX0_near_19

noncomputable def fX0_same (fn : Nat → Int32) (fs : Nat → Int32) (cp : Int32) (x1 : Int32) : Option (Int32) :=
  if x1 < 0 then
    some (0 : Int32)
  else
    if (768 : Int32) ≤ x1 then
      some (0 : Int32)
    else
      if inb x1 768 = true then
      some (fs x1.toNatClampNeg)
      else none

set_option maxHeartbeats 4000000 in
set_option maxRecDepth 100000 in
theorem kX0_same (l : Launch) (D : va_G) (h : Nat) (an : Nat) (az : Nat) (cN : ClassId) (cS : ClassId) (fn : Nat → Int32) (fs : Nat → Int32) (cp : Int32) (x1 : Int32) {R : Int32} (hf : fX0_same fn fs cp x1 = some R) : MI l yX0_same wsX0_same (rmD 0) D ([.ref h, .int x1] : List Value) (wC h an az cN cS fn fs cp) [(cN, .int), (cS, .int)] NT R (wC h an az cN cS fn fs cp) := by
  refine MI.mk (cc := cX0_same) (maxL := 2) (ret := (some .int)) (by first | decide | decide +kernel) rfl (Nat.le_of_ble_eq_true rfl) ?_
  intro p e s m below meth cd A ls hE
  obtain ⟨hx, hb, hr, hml, hts, hown, hlocks, hP, hK, hD, hA, hN, hAe, hl⟩ := hE
  have hown : s.vm.findClass RX0 = some m.cls := hown
  have hS : va_S A s.heap s.heap [] := va_S.rf
  have hl : lv_has ls 2 [(0, .ref h), (1, .int x1)] := hl
  rw [fX0_same] at hf
  refine lv_iload_n hx hb dX0_same_0 rfl (lv_at hl 1 rfl) ?_
  refine lv_if_lt (tgt := 20) hx hb dX0_same_1 (by decide) (fun c1 => ?_) (fun c1 => ?_)
  · rw [if_pos c1] at hf
    refine lv_iconst (v := (0 : Int32)) hx hb dX0_same_20 (by decide) ?_
    obtain rfl := Option.some.inj hf
    exact k_retI hx hb hr hlocks hP hS dX0_same_21
  · rw [if_neg c1] at hf
    refine lv_iload_n hx hb dX0_same_4 rfl (lv_at hl 1 rfl) ?_
    refine lv_sipush (v := (768 : Int32)) hx hb dX0_same_5 (by decide) ?_
    refine lv_icmp_ge (tgt := 20) hx hb dX0_same_8 (by decide) (fun c2 => ?_) (fun c2 => ?_)
    · rw [if_pos c2] at hf
      refine lv_iconst (v := (0 : Int32)) hx hb dX0_same_20 (by decide) ?_
      obtain rfl := Option.some.inj hf
      exact k_retI hx hb hr hlocks hP hS dX0_same_21
    · rw [if_neg c2] at hf
      refine lv_aload_n hx hb dX0_same_11 rfl (lv_at hl 0 rfl) ?_
      refine va_get (D := D) (ci := 0) (v := .ref az) (C := RX0) (T := TX0) (N := 3) hx hb hts (fun w h => List.mem_cons_of_mem _ (List.mem_append_right _ h)) hown hK hP 0 rfl rfl 1 (by decide) (hts (.fieldLink RX0 15 "DeltaWindows$Caches" "same" "[I") (List.mem_of_getElem? (i := 1) rfl)) (fun _ h9 => h9) rfl dX0_same_12 ?_
      refine lv_iload_n hx hb dX0_same_15 rfl (lv_at hl 1 rfl) ?_
      obtain ⟨g3, hf⟩ := g_inv hf
      refine va_iald hx hb hK hP 2 1 rfl rfl (inb_vp g3) dX0_same_16 ?_
      refine lv_goto (tgt := 21) hx hb dX0_same_17 (by decide) ?_
      obtain rfl := Option.some.inj hf
      exact k_retI hx hb hr hlocks hP hS dX0_same_21

noncomputable def fX0_clear (fn : Nat → Int32) (fs : Nat → Int32) (cp : Int32) : Option ((Nat → Int32) × (Nat → Int32) × Int32) :=
  (fJ7_fill_53178 4 fn (0 : Int32)).bind fun R1 =>
  (fJ7_fill_53178 768 fs (0 : Int32)).bind fun R3 =>
  some (R1, R3, (0 : Int32))

set_option maxHeartbeats 4000000 in
set_option maxRecDepth 100000 in
theorem kX0_clear (l : Launch) (D : va_G) (h : Nat) (an : Nat) (az : Nat) (cN : ClassId) (cS : ClassId) (fn : Nat → Int32) (fs : Nat → Int32) (cp : Int32) {R : (Nat → Int32) × (Nat → Int32) × Int32} (hf : fX0_clear fn fs cp = some R) : MV l yX0_clear wsX0_clear (rmD 1) D ([.ref h] : List Value) (wC h an az cN cS fn fs cp) [(cN, .int), (cS, .int)] NT (wC h an az cN cS R.1 R.2.1 R.2.2) := by
  refine MV.mk (cc := cX0_clear) (maxL := 1) (ret := none) (by first | decide | decide +kernel) rfl (Nat.le_of_ble_eq_true rfl) ?_
  intro p e s m below meth cd A ls hE
  obtain ⟨hx, hb, hr, hml, hts, hown, hlocks, hP, hK, hD, hA, hN, hAe, hl⟩ := hE
  have hown : s.vm.findClass RX0 = some m.cls := hown
  have hS : va_S A s.heap s.heap [] := va_S.rf
  have hl : lv_has ls 1 [(0, .ref h)] := hl
  rw [fX0_clear] at hf
  refine lv_aload_n hx hb dX0_clear_0 rfl (lv_at hl 0 rfl) ?_
  refine va_get (D := D) (ci := 0) (v := .ref an) (C := RX0) (T := TX0) (N := 3) hx hb hts (fun w h => List.mem_cons_of_mem _ (List.mem_append_right _ h)) hown hK hP 0 rfl rfl 0 (by decide) (hts (.fieldLink RX0 9 "DeltaWindows$Caches" "near" "[I") (List.mem_of_getElem? (i := 1) rfl)) (fun _ h9 => h9) rfl dX0_clear_1 ?_
  refine lv_iconst (v := (0 : Int32)) hx hb dX0_clear_4 (by decide) ?_
  obtain ⟨R1, hc2, hf⟩ := b_inv hf
  have hk := kcut (wc := (wF an cN 4 fn)) (wc' := (wF an cN 4 R1)) (wf := (wC h an az cN cS R1 fs cp)) hP hD hS hA [1] rfl (by decide) rfl rfl
  refine k_goV (va_runS (As := [.ref an, .int (0 : Int32)]) (rest := []) ⟨hx, hb, hml, hown, hts⟩ (kJ7_fill_53178 l D an cN 4 fn (0 : Int32) hc2 _) ⟨callB_of 2 hts ggX0_clear_J7_fill_53178 rfl rfl rfl (hts (.initialized RJ7) (List.mem_of_getElem? (i := 6) rfl)) (hts (.methodLink RX0 22 yJ7_fill_53178) (List.mem_of_getElem? (i := 4) rfl)) (by decide +kernel) ⟨Nat.le_of_ble_eq_true rfl, Nat.le_of_ble_eq_true rfl⟩, (hts (.static yJ7_fill_53178) (List.mem_of_getElem? (i := 5) rfl))⟩ (k_preS hk (hK.sub [0] rfl) NT_bl NT_u) rfl rfl hl.1 rfl (lv_room (Nat.le_of_ble_eq_true rfl)) dX0_clear_5 ⟨Nat.zero_le _, Nat.zero_le _⟩) hk hS (fun H locs hP hD hS => ?_)
  refine lv_aload_n hx hb dX0_clear_8 rfl (lv_at hl 0 rfl) ?_
  refine va_get (D := D) (ci := 0) (v := .ref az) (C := RX0) (T := TX0) (N := 3) hx hb hts (fun w h => List.mem_cons_of_mem _ (List.mem_append_right _ h)) hown hK hP 0 rfl rfl 1 (by decide) (hts (.fieldLink RX0 15 "DeltaWindows$Caches" "same" "[I") (List.mem_of_getElem? (i := 2) rfl)) (fun _ h9 => h9) rfl dX0_clear_9 ?_
  refine lv_iconst (v := (0 : Int32)) hx hb dX0_clear_12 (by decide) ?_
  obtain ⟨R3, hc4, hf⟩ := b_inv hf
  have hk := kcut (wc := (wF az cS 768 fs)) (wc' := (wF az cS 768 R3)) (wf := (wC h an az cN cS R1 R3 cp)) hP hD hS hA [2] rfl (by decide) rfl rfl
  refine k_goV (va_runS (As := [.ref az, .int (0 : Int32)]) (rest := []) ⟨hx, hb, hml, hown, hts⟩ (kJ7_fill_53178 l D az cS 768 fs (0 : Int32) hc4 _) ⟨callB_of 2 hts ggX0_clear_J7_fill_53178 rfl rfl rfl (hts (.initialized RJ7) (List.mem_of_getElem? (i := 6) rfl)) (hts (.methodLink RX0 22 yJ7_fill_53178) (List.mem_of_getElem? (i := 4) rfl)) (by decide +kernel) ⟨Nat.le_of_ble_eq_true rfl, Nat.le_of_ble_eq_true rfl⟩, (hts (.static yJ7_fill_53178) (List.mem_of_getElem? (i := 5) rfl))⟩ (k_preS hk (hK.sub [1] rfl) NT_bl NT_u) rfl rfl hl.1 rfl (lv_room (Nat.le_of_ble_eq_true rfl)) dX0_clear_13 ⟨Nat.zero_le _, Nat.zero_le _⟩) hk hS (fun H locs hP hD hS => ?_)
  refine lv_aload_n hx hb dX0_clear_16 rfl (lv_at hl 0 rfl) ?_
  refine lv_iconst (v := (0 : Int32)) hx hb dX0_clear_17 (by decide) ?_
  refine va_put (D := D) (ci := 0) (v := .int (0 : Int32)) (ty := .int) (C := RX0) (T := TX0) (N := 3) hx hb hts (fun w h => List.mem_cons_of_mem _ (List.mem_append_right _ h)) tyX0 tyX0_ok nmX0 hown hK hP hD hS 0 rfl rfl 2 (by decide) (hts (.fieldLink RX0 18 "DeltaWindows$Caches" "copies" "I") (List.mem_of_getElem? (i := 3) rfl)) (fun _ h9 => h9) rfl (by decide +kernel) rfl rfl (Nat.le_of_ble_eq_true rfl) dX0_clear_18 (fun H locs hP hD hS => ?_)
  have hP : va_P D vwCl (wC h an az cN cS R1 R3 (0 : Int32)) H := hP
  have hD : va_D A (wC h an az cN cS R1 R3 (0 : Int32)) := hD
  obtain rfl := Option.some.inj hf
  exact k_retV hx hb hr hlocks hP hS dX0_clear_21

noncomputable def fX0_learn (fn : Nat → Int32) (fs : Nat → Int32) (cp : Int32) (x1 : Int32) : Option ((Nat → Int32) × (Nat → Int32) × Int32) :=
  (fJ9_floorMod_7cf53 cp (4 : Int32)).bind fun R1 =>
  if inb R1 4 = true then
  (fJ9_floorMod_7cf53 x1 (768 : Int32)).bind fun R4 =>
  if inb R4 768 = true then
  some ((upd fn R1.toNatClampNeg x1), (upd fs R4.toNatClampNeg x1), (cp + (1 : Int32)))
  else none
  else none

set_option maxHeartbeats 4000000 in
set_option maxRecDepth 100000 in
theorem kX0_learn (l : Launch) (D : va_G) (h : Nat) (an : Nat) (az : Nat) (cN : ClassId) (cS : ClassId) (fn : Nat → Int32) (fs : Nat → Int32) (cp : Int32) (x1 : Int32) {R : (Nat → Int32) × (Nat → Int32) × Int32} (hf : fX0_learn fn fs cp x1 = some R) : MV l yX0_learn wsX0_learn (rmD 1) D ([.ref h, .int x1] : List Value) (wC h an az cN cS fn fs cp) [(cN, .int), (cS, .int)] NT (wC h an az cN cS R.1 R.2.1 R.2.2) := by
  refine MV.mk (cc := cX0_learn) (maxL := 2) (ret := none) (by first | decide | decide +kernel) rfl (Nat.le_of_ble_eq_true rfl) ?_
  intro p e s m below meth cd A ls hE
  obtain ⟨hx, hb, hr, hml, hts, hown, hlocks, hP, hK, hD, hA, hN, hAe, hl⟩ := hE
  have hown : s.vm.findClass RX0 = some m.cls := hown
  have hS : va_S A s.heap s.heap [] := va_S.rf
  have hl : lv_has ls 2 [(0, .ref h), (1, .int x1)] := hl
  rw [fX0_learn] at hf
  refine lv_aload_n hx hb dX0_learn_0 rfl (lv_at hl 0 rfl) ?_
  refine va_get (D := D) (ci := 0) (v := .ref an) (C := RX0) (T := TX0) (N := 3) hx hb hts (fun w h => List.mem_cons_of_mem _ (List.mem_append_right _ h)) hown hK hP 0 rfl rfl 0 (by decide) (hts (.fieldLink RX0 9 "DeltaWindows$Caches" "near" "[I") (List.mem_of_getElem? (i := 1) rfl)) (fun _ h9 => h9) rfl dX0_learn_1 ?_
  refine lv_aload_n hx hb dX0_learn_4 rfl (lv_at hl 0 rfl) ?_
  refine va_get (D := D) (ci := 0) (v := .int cp) (C := RX0) (T := TX0) (N := 3) hx hb hts (fun w h => List.mem_cons_of_mem _ (List.mem_append_right _ h)) hown hK hP 0 rfl rfl 2 (by decide) (hts (.fieldLink RX0 18 "DeltaWindows$Caches" "copies" "I") (List.mem_of_getElem? (i := 2) rfl)) (fun _ h9 => h9) rfl dX0_learn_5 ?_
  refine lv_iconst (v := (4 : Int32)) hx hb dX0_learn_8 (by decide) ?_
  obtain ⟨R1, hc2, hf⟩ := b_inv hf
  have hk := kcut (wc := ([] : va_W)) (wc' := ([] : va_W)) (wf := (wC h an az cN cS fn fs cp)) hP hD hS hA [] rfl (by decide) rfl rfl
  refine k_goI (va_runS (As := [.int cp, .int (4 : Int32)]) (rest := [.ref an]) ⟨hx, hb, hml, hown, hts⟩ (kJ9_floorMod_7cf53 l D cp (4 : Int32) hc2 _) ⟨callB_of 2 hts ggX0_learn_J9_floorMod_7cf53 rfl rfl rfl (hts (.initialized RJ9) (List.mem_of_getElem? (i := 6) rfl)) (hts (.methodLink RX0 28 yJ9_floorMod_7cf53) (List.mem_of_getElem? (i := 4) rfl)) (by decide +kernel) ⟨Nat.le_of_ble_eq_true rfl, Nat.le_of_ble_eq_true rfl⟩, (hts (.static yJ9_floorMod_7cf53) (List.mem_of_getElem? (i := 5) rfl))⟩ (k_preS hk (hK.sub [] rfl) NT_bl NT_u) rfl rfl hl.1 rfl (lv_room (Nat.le_of_ble_eq_true rfl)) dX0_learn_9 ⟨Nat.zero_le _, Nat.zero_le _⟩) hk hS (fun H locs hP hD hS => ?_)
  refine lv_iload_n hx hb dX0_learn_12 rfl (lv_at hl 1 rfl) ?_
  obtain ⟨g3, hf⟩ := g_inv hf
  refine va_iast hx hb hK hP hD hS 1 0 rfl rfl (inb_vp g3) dX0_learn_13 (fun H locs hP hD hS => ?_)
  have hP : va_P D vwCl (wC h an az cN cS (upd fn R1.toNatClampNeg x1) fs cp) H := hP
  have hD : va_D A (wC h an az cN cS (upd fn R1.toNatClampNeg x1) fs cp) := hD
  refine lv_aload_n hx hb dX0_learn_14 rfl (lv_at hl 0 rfl) ?_
  refine va_get (D := D) (ci := 0) (v := .ref az) (C := RX0) (T := TX0) (N := 3) hx hb hts (fun w h => List.mem_cons_of_mem _ (List.mem_append_right _ h)) hown hK hP 0 rfl rfl 1 (by decide) (hts (.fieldLink RX0 15 "DeltaWindows$Caches" "same" "[I") (List.mem_of_getElem? (i := 3) rfl)) (fun _ h9 => h9) rfl dX0_learn_15 ?_
  refine lv_iload_n hx hb dX0_learn_18 rfl (lv_at hl 1 rfl) ?_
  refine lv_sipush (v := (768 : Int32)) hx hb dX0_learn_19 (by decide) ?_
  obtain ⟨R4, hc5, hf⟩ := b_inv hf
  have hk := kcut (wc := ([] : va_W)) (wc' := ([] : va_W)) (wf := (wC h an az cN cS (upd fn R1.toNatClampNeg x1) fs cp)) hP hD hS hA [] rfl (by decide) rfl rfl
  refine k_goI (va_runS (As := [.int x1, .int (768 : Int32)]) (rest := [.ref az]) ⟨hx, hb, hml, hown, hts⟩ (kJ9_floorMod_7cf53 l D x1 (768 : Int32) hc5 _) ⟨callB_of 2 hts ggX0_learn_J9_floorMod_7cf53 rfl rfl rfl (hts (.initialized RJ9) (List.mem_of_getElem? (i := 6) rfl)) (hts (.methodLink RX0 28 yJ9_floorMod_7cf53) (List.mem_of_getElem? (i := 4) rfl)) (by decide +kernel) ⟨Nat.le_of_ble_eq_true rfl, Nat.le_of_ble_eq_true rfl⟩, (hts (.static yJ9_floorMod_7cf53) (List.mem_of_getElem? (i := 5) rfl))⟩ (k_preS hk (hK.sub [] rfl) NT_bl NT_u) rfl rfl hl.1 rfl (lv_room (Nat.le_of_ble_eq_true rfl)) dX0_learn_22 ⟨Nat.zero_le _, Nat.zero_le _⟩) hk hS (fun H locs hP hD hS => ?_)
  refine lv_iload_n hx hb dX0_learn_25 rfl (lv_at hl 1 rfl) ?_
  obtain ⟨g6, hf⟩ := g_inv hf
  refine va_iast hx hb hK hP hD hS 2 1 rfl rfl (inb_vp g6) dX0_learn_26 (fun H locs hP hD hS => ?_)
  have hP : va_P D vwCl (wC h an az cN cS (upd fn R1.toNatClampNeg x1) (upd fs R4.toNatClampNeg x1) cp) H := hP
  have hD : va_D A (wC h an az cN cS (upd fn R1.toNatClampNeg x1) (upd fs R4.toNatClampNeg x1) cp) := hD
  refine lv_aload_n hx hb dX0_learn_27 rfl (lv_at hl 0 rfl) ?_
  refine lv_dup hx hb dX0_learn_28 rfl ?_
  refine va_get (D := D) (ci := 0) (v := .int cp) (C := RX0) (T := TX0) (N := 3) hx hb hts (fun w h => List.mem_cons_of_mem _ (List.mem_append_right _ h)) hown hK hP 0 rfl rfl 2 (by decide) (hts (.fieldLink RX0 18 "DeltaWindows$Caches" "copies" "I") (List.mem_of_getElem? (i := 2) rfl)) (fun _ h9 => h9) rfl dX0_learn_29 ?_
  refine lv_iconst (v := (1 : Int32)) hx hb dX0_learn_32 (by decide) ?_
  refine lv_iadd hx hb dX0_learn_33 ?_
  refine va_put (D := D) (ci := 0) (v := .int (cp + (1 : Int32))) (ty := .int) (C := RX0) (T := TX0) (N := 3) hx hb hts (fun w h => List.mem_cons_of_mem _ (List.mem_append_right _ h)) tyX0 tyX0_ok nmX0 hown hK hP hD hS 0 rfl rfl 2 (by decide) (hts (.fieldLink RX0 18 "DeltaWindows$Caches" "copies" "I") (List.mem_of_getElem? (i := 2) rfl)) (fun _ h9 => h9) rfl (by decide +kernel) rfl rfl (Nat.le_of_ble_eq_true rfl) dX0_learn_34 (fun H locs hP hD hS => ?_)
  have hP : va_P D vwCl (wC h an az cN cS (upd fn R1.toNatClampNeg x1) (upd fs R4.toNatClampNeg x1) (cp + (1 : Int32))) H := hP
  have hD : va_D A (wC h an az cN cS (upd fn R1.toNatClampNeg x1) (upd fs R4.toNatClampNeg x1) (cp + (1 : Int32))) := hD
  obtain rfl := Option.some.inj hf
  exact k_retV hx hb hr hlocks hP hS dX0_learn_37

noncomputable def fX0_integerFor (fn : Nat → Int32) (fs : Nat → Int32) (cp : Int32) (x1 : Int32) (x2 : Int32) (x3 : Int32) : Option (Int32) :=
  if x1 < (2 : Int32) then
    if x1 = (1 : Int32) then
      some (x3 - x2)
    else
      some x2
  else
    if (6 : Int32) ≤ x1 then
      if x1 = (1 : Int32) then
        some (x3 - x2)
      else
        some x2
    else
      if inb (x1 - (2 : Int32)) 4 = true then
      some (x2 - (fn (x1 - (2 : Int32)).toNatClampNeg))
      else none

set_option maxHeartbeats 4000000 in
set_option maxRecDepth 100000 in
theorem kX0_integerFor (l : Launch) (D : va_G) (h : Nat) (an : Nat) (az : Nat) (cN : ClassId) (cS : ClassId) (fn : Nat → Int32) (fs : Nat → Int32) (cp : Int32) (x1 : Int32) (x2 : Int32) (x3 : Int32) {R : Int32} (hf : fX0_integerFor fn fs cp x1 x2 x3 = some R) : MI l yX0_integerFor wsX0_integerFor (rmD 0) D ([.ref h, .int x1, .int x2, .int x3] : List Value) (wC h an az cN cS fn fs cp) [(cN, .int), (cS, .int)] NT R (wC h an az cN cS fn fs cp) := by
  refine MI.mk (cc := cX0_integerFor) (maxL := 4) (ret := (some .int)) (by first | decide | decide +kernel) rfl (Nat.le_of_ble_eq_true rfl) ?_
  intro p e s m below meth cd A ls hE
  obtain ⟨hx, hb, hr, hml, hts, hown, hlocks, hP, hK, hD, hA, hN, hAe, hl⟩ := hE
  have hown : s.vm.findClass RX0 = some m.cls := hown
  have hS : va_S A s.heap s.heap [] := va_S.rf
  have hl : lv_has ls 4 [(0, .ref h), (1, .int x1), (2, .int x2), (3, .int x3)] := hl
  rw [fX0_integerFor] at hf
  refine lv_iload_n hx hb dX0_integerFor_0 rfl (lv_at hl 1 rfl) ?_
  refine lv_iconst (v := (2 : Int32)) hx hb dX0_integerFor_1 (by decide) ?_
  refine lv_icmp_lt (tgt := 22) hx hb dX0_integerFor_2 (by decide) (fun c1 => ?_) (fun c1 => ?_)
  · rw [if_pos c1] at hf
    refine lv_iload_n hx hb dX0_integerFor_22 rfl (lv_at hl 1 rfl) ?_
    refine lv_iconst (v := (1 : Int32)) hx hb dX0_integerFor_23 (by decide) ?_
    refine lv_icmp_ne (tgt := 33) hx hb dX0_integerFor_24 (by decide) (fun c2 => ?_) (fun c2 => ?_)
    · rw [if_neg c2] at hf
      refine lv_iload_n hx hb dX0_integerFor_33 rfl (lv_at hl 2 rfl) ?_
      obtain rfl := Option.some.inj hf
      exact k_retI hx hb hr hlocks hP hS dX0_integerFor_34
    · rw [if_pos c2] at hf
      refine lv_iload_n hx hb dX0_integerFor_27 rfl (lv_at hl 3 rfl) ?_
      refine lv_iload_n hx hb dX0_integerFor_28 rfl (lv_at hl 2 rfl) ?_
      refine lv_isub hx hb dX0_integerFor_29 ?_
      refine lv_goto (tgt := 34) hx hb dX0_integerFor_30 (by decide) ?_
      obtain rfl := Option.some.inj hf
      exact k_retI hx hb hr hlocks hP hS dX0_integerFor_34
  · rw [if_neg c1] at hf
    refine lv_iload_n hx hb dX0_integerFor_5 rfl (lv_at hl 1 rfl) ?_
    refine lv_bipush (v := (6 : Int32)) hx hb dX0_integerFor_6 (by decide) ?_
    refine lv_icmp_ge (tgt := 22) hx hb dX0_integerFor_8 (by decide) (fun c3 => ?_) (fun c3 => ?_)
    · rw [if_pos c3] at hf
      refine lv_iload_n hx hb dX0_integerFor_22 rfl (lv_at hl 1 rfl) ?_
      refine lv_iconst (v := (1 : Int32)) hx hb dX0_integerFor_23 (by decide) ?_
      refine lv_icmp_ne (tgt := 33) hx hb dX0_integerFor_24 (by decide) (fun c4 => ?_) (fun c4 => ?_)
      · rw [if_neg c4] at hf
        refine lv_iload_n hx hb dX0_integerFor_33 rfl (lv_at hl 2 rfl) ?_
        obtain rfl := Option.some.inj hf
        exact k_retI hx hb hr hlocks hP hS dX0_integerFor_34
      · rw [if_pos c4] at hf
        refine lv_iload_n hx hb dX0_integerFor_27 rfl (lv_at hl 3 rfl) ?_
        refine lv_iload_n hx hb dX0_integerFor_28 rfl (lv_at hl 2 rfl) ?_
        refine lv_isub hx hb dX0_integerFor_29 ?_
        refine lv_goto (tgt := 34) hx hb dX0_integerFor_30 (by decide) ?_
        obtain rfl := Option.some.inj hf
        exact k_retI hx hb hr hlocks hP hS dX0_integerFor_34
    · rw [if_neg c3] at hf
      refine lv_iload_n hx hb dX0_integerFor_11 rfl (lv_at hl 2 rfl) ?_
      refine lv_aload_n hx hb dX0_integerFor_12 rfl (lv_at hl 0 rfl) ?_
      refine va_get (D := D) (ci := 0) (v := .ref an) (C := RX0) (T := TX0) (N := 3) hx hb hts (fun w h => List.mem_cons_of_mem _ (List.mem_append_right _ h)) hown hK hP 0 rfl rfl 0 (by decide) (hts (.fieldLink RX0 9 "DeltaWindows$Caches" "near" "[I") (List.mem_of_getElem? (i := 1) rfl)) (fun _ h9 => h9) rfl dX0_integerFor_13 ?_
      refine lv_iload_n hx hb dX0_integerFor_16 rfl (lv_at hl 1 rfl) ?_
      refine lv_iconst (v := (2 : Int32)) hx hb dX0_integerFor_17 (by decide) ?_
      refine lv_isub hx hb dX0_integerFor_18 ?_
      obtain ⟨g5, hf⟩ := g_inv hf
      refine va_iald hx hb hK hP 1 0 rfl rfl (inb_vp g5) dX0_integerFor_19 ?_
      refine lv_isub hx hb dX0_integerFor_20 ?_
      obtain rfl := Option.some.inj hf
      exact k_retI hx hb hr hlocks hP hS dX0_integerFor_21

noncomputable def fX0_leastMode_L5 (fn : Nat → Int32) (fs : Nat → Int32) (cp : Int32) (v1 : Int32) (v2 : Int32) : Nat → (Int32) → (Int32) → Option (Int32)
  | 0, _, _ => none
  | k + 1, v3, v4 =>
    if (6 : Int32) ≤ v4 then
      some v3
    else
      (fX0_integerFor fn fs cp v4 v1 v2).bind fun R2 =>
      if R2 < 0 then
        fX0_leastMode_L5 fn fs cp v1 v2 k v3 (v4 + (1 : Int32))
      else
        (fX0_integerFor fn fs cp v3 v1 v2).bind fun R5 =>
        if R5 ≤ R2 then
          fX0_leastMode_L5 fn fs cp v1 v2 k v3 (v4 + (1 : Int32))
        else
          fX0_leastMode_L5 fn fs cp v1 v2 k v4 (v4 + (1 : Int32))

noncomputable def fX0_leastMode (fn : Nat → Int32) (fs : Nat → Int32) (cp : Int32) (x1 : Int32) (x2 : Int32) : Option (Int32) :=
  (fX0_leastMode_L5 fn fs cp x1 x2 FU (0 : Int32) (1 : Int32)).bind fun R8 =>
  some R8

set_option maxHeartbeats 4000000 in
set_option maxRecDepth 100000 in
theorem kX0_leastMode (l : Launch) (D : va_G) (h : Nat) (an : Nat) (az : Nat) (cN : ClassId) (cS : ClassId) (fn : Nat → Int32) (fs : Nat → Int32) (cp : Int32) (x1 : Int32) (x2 : Int32) {R : Int32} (hf : fX0_leastMode fn fs cp x1 x2 = some R) : MI l yX0_leastMode wsX0_leastMode (rmD 1) D ([.ref h, .int x1, .int x2] : List Value) (wC h an az cN cS fn fs cp) [(cN, .int), (cS, .int)] NT R (wC h an az cN cS fn fs cp) := by
  refine MI.mk (cc := cX0_leastMode) (maxL := 6) (ret := (some .int)) (by first | decide | decide +kernel) rfl (Nat.le_of_ble_eq_true rfl) ?_
  intro p e s m below meth cd A ls hE
  obtain ⟨hx, hb, hr, hml, hts, hown, hlocks, hP, hK, hD, hA, hN, hAe, hl⟩ := hE
  have hown : s.vm.findClass RX0 = some m.cls := hown
  have hS : va_S A s.heap s.heap [] := va_S.rf
  have hl : lv_has ls 6 [(0, .ref h), (1, .int x1), (2, .int x2)] := hl
  rw [fX0_leastMode] at hf
  refine lv_iconst (v := (0 : Int32)) hx hb dX0_leastMode_0 (by decide) ?_
  refine lv_istore_n (lv' := [(3, .int (0 : Int32)), (0, .ref h), (1, .int x1), (2, .int x2)]) hx hb dX0_leastMode_1 rfl hl (by decide) rfl (fun ls hl => ?_)
  refine lv_iconst (v := (1 : Int32)) hx hb dX0_leastMode_2 (by decide) ?_
  refine lv_istore (lv' := [(4, .int (1 : Int32)), (3, .int (0 : Int32)), (0, .ref h), (1, .int x1), (2, .int x2)]) hx hb dX0_leastMode_3 hl (by decide) rfl (fun ls hl => ?_)
  have lp10 : ∀ (fn : Nat → Int32) (fs : Nat → Int32) (cp : Int32) (v1 : Int32) (v2 : Int32), ∀ (k : Nat) (v3 : Int32) (v4 : Int32) (H : Heap) (locs : List Loc) (ls : Array Slot) (o : Int32), lv_has ls 6 [(3, .int v3), (4, .int v4), (1, .int v1), (2, .int v2), (0, .ref h)] → va_P D vwCl (wC h an az cN cS fn fs cp) H → va_D A (wC h an az cN cS fn fs cp) → va_S A s.heap H locs → fX0_leastMode_L5 fn fs cp v1 v2 k v3 v4 = some o → (∀ (H : Heap) (locs : List Loc) (ls : Array Slot), lv_has ls 6 [(3, .int o)] → va_P D vwCl (wC h an az cN cS fn fs cp) H → va_D A (wC h an az cN cS fn fs cp) → va_S A s.heap H locs → W p l e (headSpec wsX0_leastMode (rmD 1)).room s m ([.ref h, .int x1, .int x2] : List Value).toArray below meth cd H locs 0 0 (QI D below ([.ref h, .int x1, .int x2] : List Value).toArray s A R (wC h an az cN cS fn fs cp)) (F0 m 48 ls [])) → W p l e (headSpec wsX0_leastMode (rmD 1)).room s m ([.ref h, .int x1, .int x2] : List Value).toArray below meth cd H locs 0 0 (QI D below ([.ref h, .int x1, .int x2] : List Value).toArray s A R (wC h an az cN cS fn fs cp)) (F0 m 5 ls []) := by
    intro fn fs cp v1 v2
    intro k
    induction k with
    | zero =>
      intro v3 v4 H locs ls o hl hP hD hS hf
      exact absurd hf (by simp [fX0_leastMode_L5])
    | succ k ih =>
      intro v3 v4 H locs ls o hl hP hD hS hf kont
      rw [fX0_leastMode_L5] at hf
      refine lv_iload hx hb dX0_leastMode_5 (lv_at hl 1 rfl) ?_
      refine lv_bipush (v := (6 : Int32)) hx hb dX0_leastMode_7 (by decide) ?_
      refine lv_icmp_ge (tgt := 48) hx hb dX0_leastMode_9 (by decide) (fun c1 => ?_) (fun c1 => ?_)
      · rw [if_pos c1] at hf
        obtain rfl := Option.some.inj hf
        exact kont _ _ _ (lv_sub hl [0] rfl) hP hD hS
      · rw [if_neg c1] at hf
        refine lv_aload_n hx hb dX0_leastMode_12 rfl (lv_at hl 4 rfl) ?_
        refine lv_iload hx hb dX0_leastMode_13 (lv_at hl 1 rfl) ?_
        refine lv_iload_n hx hb dX0_leastMode_15 rfl (lv_at hl 2 rfl) ?_
        refine lv_iload_n hx hb dX0_leastMode_16 rfl (lv_at hl 3 rfl) ?_
        obtain ⟨R2, hc3, hf⟩ := b_inv hf
        have hk := kall (wc' := (wC h an az cN cS fn fs cp)) hP hD hS hA rfl
        refine k_goI (va_runV (As := [.int v4, .int v1, .int v2]) (rest := []) ⟨hx, hb, hml, hown, hts⟩ (kX0_integerFor l D h an az cN cS fn fs cp v4 v1 v2 hc3 _) (cwV 3 hts gX0_leastMode_X0_integerFor rfl rfl rfl (by decide +kernel) ⟨Nat.le_of_ble_eq_true rfl, Nat.le_of_ble_eq_true rfl⟩) (k_preV (q0 := 0) (ci := 0) hk hK NT_bl NT_u rfl rfl rfl) rfl rfl hl.1 rfl (lv_room (Nat.le_of_ble_eq_true rfl)) dX0_leastMode_17 ⟨Nat.zero_le _, Nat.zero_le _⟩) hk hS (fun H locs hP hD hS => ?_)
        refine lv_istore (lv' := [(5, .int R2), (3, .int v3), (4, .int v4), (1, .int v1), (2, .int v2), (0, .ref h)]) hx hb dX0_leastMode_20 hl (by decide) rfl (fun ls hl => ?_)
        refine lv_iload hx hb dX0_leastMode_22 (lv_at hl 0 rfl) ?_
        refine lv_if_lt (tgt := 42) hx hb dX0_leastMode_24 (by decide) (fun c4 => ?_) (fun c4 => ?_)
        · rw [if_pos c4] at hf
          refine lv_iinc (v := (v4 + (1 : Int32))) (lv' := [(4, .int (v4 + (1 : Int32))), (5, .int R2), (3, .int v3), (1, .int v1), (2, .int v2), (0, .ref h)]) hx hb dX0_leastMode_42 hl (k := 2) rfl rfl (by decide) rfl (fun ls hl => ?_)
          refine lv_goto (tgt := 5) hx hb dX0_leastMode_45 (by decide) ?_
          exact ih v3 (v4 + (1 : Int32)) _ _ _ o (lv_sub hl [2, 0, 3, 4, 5] rfl) hP hD hS hf kont
        · rw [if_neg c4] at hf
          refine lv_iload hx hb dX0_leastMode_27 (lv_at hl 0 rfl) ?_
          refine lv_aload_n hx hb dX0_leastMode_29 rfl (lv_at hl 5 rfl) ?_
          refine lv_iload_n hx hb dX0_leastMode_30 rfl (lv_at hl 1 rfl) ?_
          refine lv_iload_n hx hb dX0_leastMode_31 rfl (lv_at hl 3 rfl) ?_
          refine lv_iload_n hx hb dX0_leastMode_32 rfl (lv_at hl 4 rfl) ?_
          obtain ⟨R5, hc6, hf⟩ := b_inv hf
          have hk := kall (wc' := (wC h an az cN cS fn fs cp)) hP hD hS hA rfl
          refine k_goI (va_runV (As := [.int v3, .int v1, .int v2]) (rest := [.int R2]) ⟨hx, hb, hml, hown, hts⟩ (kX0_integerFor l D h an az cN cS fn fs cp v3 v1 v2 hc6 _) (cwV 3 hts gX0_leastMode_X0_integerFor rfl rfl rfl (by decide +kernel) ⟨Nat.le_of_ble_eq_true rfl, Nat.le_of_ble_eq_true rfl⟩) (k_preV (q0 := 0) (ci := 0) hk hK NT_bl NT_u rfl rfl rfl) rfl rfl hl.1 rfl (lv_room (Nat.le_of_ble_eq_true rfl)) dX0_leastMode_33 ⟨Nat.zero_le _, Nat.zero_le _⟩) hk hS (fun H locs hP hD hS => ?_)
          refine lv_icmp_ge (tgt := 42) hx hb dX0_leastMode_36 (by decide) (fun c7 => ?_) (fun c7 => ?_)
          · rw [if_pos c7] at hf
            refine lv_iinc (v := (v4 + (1 : Int32))) (lv' := [(4, .int (v4 + (1 : Int32))), (5, .int R2), (3, .int v3), (1, .int v1), (2, .int v2), (0, .ref h)]) hx hb dX0_leastMode_42 hl (k := 2) rfl rfl (by decide) rfl (fun ls hl => ?_)
            refine lv_goto (tgt := 5) hx hb dX0_leastMode_45 (by decide) ?_
            exact ih v3 (v4 + (1 : Int32)) _ _ _ o (lv_sub hl [2, 0, 3, 4, 5] rfl) hP hD hS hf kont
          · rw [if_neg c7] at hf
            refine lv_iload hx hb dX0_leastMode_39 (lv_at hl 2 rfl) ?_
            refine lv_istore_n (lv' := [(3, .int v4), (5, .int R2), (4, .int v4), (1, .int v1), (2, .int v2), (0, .ref h)]) hx hb dX0_leastMode_41 rfl hl (by decide) rfl (fun ls hl => ?_)
            refine lv_iinc (v := (v4 + (1 : Int32))) (lv' := [(4, .int (v4 + (1 : Int32))), (3, .int v4), (5, .int R2), (1, .int v1), (2, .int v2), (0, .ref h)]) hx hb dX0_leastMode_42 hl (k := 2) rfl rfl (by decide) rfl (fun ls hl => ?_)
            refine lv_goto (tgt := 5) hx hb dX0_leastMode_45 (by decide) ?_
            exact ih v4 (v4 + (1 : Int32)) _ _ _ o (lv_sub hl [1, 0, 3, 4, 5] rfl) hP hD hS hf kont
  obtain ⟨R8, hc9, hf⟩ := b_inv hf
  refine lp10 fn fs cp x1 x2 FU (0 : Int32) (1 : Int32) _ _ _ R8 (lv_sub hl [1, 0, 3, 4, 2] rfl) hP hD hS hc9 (fun H locs ls hl hP hD hS => ?_)
  refine lv_iload_n hx hb dX0_leastMode_48 rfl (lv_at hl 0 rfl) ?_
  obtain rfl := Option.some.inj hf
  exact k_retI hx hb hr hlocks hP hS dX0_leastMode_49

noncomputable def fX0_addressFor (fn : Nat → Int32) (fs : Nat → Int32) (cp : Int32) (x1 : Int32) (x2 : Int32) (x3 : Int32) : Option (Int64) :=
  if x1 < (2 : Int32) then
    if x1 = (1 : Int32) then
      some ((x3 - x2).toInt64)
    else
      some x2.toInt64
  else
    if (6 : Int32) ≤ x1 then
      if x1 = (1 : Int32) then
        some ((x3 - x2).toInt64)
      else
        some x2.toInt64
    else
      if inb (x1 - (2 : Int32)) 4 = true then
      some ((fn (x1 - (2 : Int32)).toNatClampNeg).toInt64 + x2.toInt64)
      else none

set_option maxHeartbeats 4000000 in
set_option maxRecDepth 100000 in
theorem kX0_addressFor (l : Launch) (D : va_G) (h : Nat) (an : Nat) (az : Nat) (cN : ClassId) (cS : ClassId) (fn : Nat → Int32) (fs : Nat → Int32) (cp : Int32) (x1 : Int32) (x2 : Int32) (x3 : Int32) {R : Int64} (hf : fX0_addressFor fn fs cp x1 x2 x3 = some R) : ML l yX0_addressFor wsX0_addressFor (rmD 0) D ([.ref h, .int x1, .int x2, .int x3] : List Value) (wC h an az cN cS fn fs cp) [(cN, .int), (cS, .int)] NT R (wC h an az cN cS fn fs cp) := by
  refine ML.mk (cc := cX0_addressFor) (maxL := 4) (ret := (some .long)) (by first | decide | decide +kernel) rfl (Nat.le_of_ble_eq_true rfl) ?_
  intro p e s m below meth cd A ls hE
  obtain ⟨hx, hb, hr, hml, hts, hown, hlocks, hP, hK, hD, hA, hN, hAe, hl⟩ := hE
  have hown : s.vm.findClass RX0 = some m.cls := hown
  have hS : va_S A s.heap s.heap [] := va_S.rf
  have hl : lv_has ls 4 [(0, .ref h), (1, .int x1), (2, .int x2), (3, .int x3)] := hl
  rw [fX0_addressFor] at hf
  refine lv_iload_n hx hb dX0_addressFor_0 rfl (lv_at hl 1 rfl) ?_
  refine lv_iconst (v := (2 : Int32)) hx hb dX0_addressFor_1 (by decide) ?_
  refine lv_icmp_lt (tgt := 24) hx hb dX0_addressFor_2 (by decide) (fun c1 => ?_) (fun c1 => ?_)
  · rw [if_pos c1] at hf
    refine lv_iload_n hx hb dX0_addressFor_24 rfl (lv_at hl 1 rfl) ?_
    refine lv_iconst (v := (1 : Int32)) hx hb dX0_addressFor_25 (by decide) ?_
    refine lv_icmp_ne (tgt := 36) hx hb dX0_addressFor_26 (by decide) (fun c2 => ?_) (fun c2 => ?_)
    · rw [if_neg c2] at hf
      refine lv_iload_n hx hb dX0_addressFor_36 rfl (lv_at hl 2 rfl) ?_
      refine lv_i2l (v := x2.toInt64) hx hb dX0_addressFor_37 rfl ?_
      obtain rfl := Option.some.inj hf
      exact k_retL hx hb hr hlocks hP hS dX0_addressFor_38
    · rw [if_pos c2] at hf
      refine lv_iload_n hx hb dX0_addressFor_29 rfl (lv_at hl 3 rfl) ?_
      refine lv_iload_n hx hb dX0_addressFor_30 rfl (lv_at hl 2 rfl) ?_
      refine lv_isub hx hb dX0_addressFor_31 ?_
      refine lv_i2l (v := (x3 - x2).toInt64) hx hb dX0_addressFor_32 rfl ?_
      refine lv_goto (tgt := 38) hx hb dX0_addressFor_33 (by decide) ?_
      obtain rfl := Option.some.inj hf
      exact k_retL hx hb hr hlocks hP hS dX0_addressFor_38
  · rw [if_neg c1] at hf
    refine lv_iload_n hx hb dX0_addressFor_5 rfl (lv_at hl 1 rfl) ?_
    refine lv_bipush (v := (6 : Int32)) hx hb dX0_addressFor_6 (by decide) ?_
    refine lv_icmp_ge (tgt := 24) hx hb dX0_addressFor_8 (by decide) (fun c3 => ?_) (fun c3 => ?_)
    · rw [if_pos c3] at hf
      refine lv_iload_n hx hb dX0_addressFor_24 rfl (lv_at hl 1 rfl) ?_
      refine lv_iconst (v := (1 : Int32)) hx hb dX0_addressFor_25 (by decide) ?_
      refine lv_icmp_ne (tgt := 36) hx hb dX0_addressFor_26 (by decide) (fun c4 => ?_) (fun c4 => ?_)
      · rw [if_neg c4] at hf
        refine lv_iload_n hx hb dX0_addressFor_36 rfl (lv_at hl 2 rfl) ?_
        refine lv_i2l (v := x2.toInt64) hx hb dX0_addressFor_37 rfl ?_
        obtain rfl := Option.some.inj hf
        exact k_retL hx hb hr hlocks hP hS dX0_addressFor_38
      · rw [if_pos c4] at hf
        refine lv_iload_n hx hb dX0_addressFor_29 rfl (lv_at hl 3 rfl) ?_
        refine lv_iload_n hx hb dX0_addressFor_30 rfl (lv_at hl 2 rfl) ?_
        refine lv_isub hx hb dX0_addressFor_31 ?_
        refine lv_i2l (v := (x3 - x2).toInt64) hx hb dX0_addressFor_32 rfl ?_
        refine lv_goto (tgt := 38) hx hb dX0_addressFor_33 (by decide) ?_
        obtain rfl := Option.some.inj hf
        exact k_retL hx hb hr hlocks hP hS dX0_addressFor_38
    · rw [if_neg c3] at hf
      refine lv_aload_n hx hb dX0_addressFor_11 rfl (lv_at hl 0 rfl) ?_
      refine va_get (D := D) (ci := 0) (v := .ref an) (C := RX0) (T := TX0) (N := 3) hx hb hts (fun w h => List.mem_cons_of_mem _ (List.mem_append_right _ h)) hown hK hP 0 rfl rfl 0 (by decide) (hts (.fieldLink RX0 9 "DeltaWindows$Caches" "near" "[I") (List.mem_of_getElem? (i := 1) rfl)) (fun _ h9 => h9) rfl dX0_addressFor_12 ?_
      refine lv_iload_n hx hb dX0_addressFor_15 rfl (lv_at hl 1 rfl) ?_
      refine lv_iconst (v := (2 : Int32)) hx hb dX0_addressFor_16 (by decide) ?_
      refine lv_isub hx hb dX0_addressFor_17 ?_
      obtain ⟨g5, hf⟩ := g_inv hf
      refine va_iald hx hb hK hP 1 0 rfl rfl (inb_vp g5) dX0_addressFor_18 ?_
      refine lv_i2l (v := (fn (x1 - (2 : Int32)).toNatClampNeg).toInt64) hx hb dX0_addressFor_19 rfl ?_
      refine lv_iload_n hx hb dX0_addressFor_20 rfl (lv_at hl 2 rfl) ?_
      refine lv_i2l (v := x2.toInt64) hx hb dX0_addressFor_21 rfl ?_
      refine lv_ladd hx hb dX0_addressFor_22 ?_
      obtain rfl := Option.some.inj hf
      exact k_retL hx hb hr hlocks hP hS dX0_addressFor_23

noncomputable def fX0_become (fn : Nat → Int32) (fs : Nat → Int32) (cp : Int32) (fn2 : Nat → Int32) (fs2 : Nat → Int32) (cp2 : Int32) : Option ((Nat → Int32) × (Nat → Int32) × Int32 × Int32) :=
  some ((va_cpy fn2 fn (0 : Int32).toNatClampNeg (0 : Int32).toNatClampNeg (4 : Int32).toNatClampNeg), (va_cpy fs2 fs (0 : Int32).toNatClampNeg (0 : Int32).toNatClampNeg (768 : Int32).toNatClampNeg), cp2, cp2)

set_option maxHeartbeats 4000000 in
set_option maxRecDepth 100000 in
theorem kX0_become (l : Launch) (D : va_G) (h : Nat) (an : Nat) (az : Nat) (cN : ClassId) (cS : ClassId) (h2 : Nat) (an2 : Nat) (az2 : Nat) (cN2 : ClassId) (cS2 : ClassId) (fn : Nat → Int32) (fs : Nat → Int32) (cp : Int32) (fn2 : Nat → Int32) (fs2 : Nat → Int32) (cp2 : Int32) {R : (Nat → Int32) × (Nat → Int32) × Int32 × Int32} (hf : fX0_become fn fs cp fn2 fs2 cp2 = some R) : MV l yX0_become wsX0_become (rmD 1) D ([.ref h, .ref h2] : List Value) (wCC h an az cN cS h2 an2 az2 cN2 cS2 fn fs cp fn2 fs2 cp2) [(cN, .int), (cS, .int), (cN2, .int), (cS2, .int)] NT (wCC h an az cN cS h2 an2 az2 cN2 cS2 R.1 R.2.1 R.2.2.1 fn2 fs2 R.2.2.2) := by
  refine MV.mk (cc := cX0_become) (maxL := 2) (ret := none) (by first | decide | decide +kernel) rfl (Nat.le_of_ble_eq_true rfl) ?_
  intro p e s m below meth cd A ls hE
  obtain ⟨hx, hb, hr, hml, hts, hown, hlocks, hP, hK, hD, hA, hN, hAe, hl⟩ := hE
  have hown : s.vm.findClass RX0 = some m.cls := hown
  have hS : va_S A s.heap s.heap [] := va_S.rf
  have hl : lv_has ls 2 [(0, .ref h), (1, .ref h2)] := hl
  rw [fX0_become] at hf
  refine lv_aload_n hx hb dX0_become_0 rfl (lv_at hl 1 rfl) ?_
  refine va_get (D := D) (ci := 0) (v := .ref an2) (C := RX0) (T := TX0) (N := 3) hx hb hts (fun w h => List.mem_cons_of_mem _ (List.mem_append_right _ h)) hown hK hP 3 rfl rfl 0 (by decide) (hts (.fieldLink RX0 9 "DeltaWindows$Caches" "near" "[I") (List.mem_of_getElem? (i := 1) rfl)) (fun _ h9 => h9) rfl dX0_become_1 ?_
  refine lv_iconst (v := (0 : Int32)) hx hb dX0_become_4 (by decide) ?_
  refine lv_aload_n hx hb dX0_become_5 rfl (lv_at hl 0 rfl) ?_
  refine va_get (D := D) (ci := 0) (v := .ref an) (C := RX0) (T := TX0) (N := 3) hx hb hts (fun w h => List.mem_cons_of_mem _ (List.mem_append_right _ h)) hown hK hP 0 rfl rfl 0 (by decide) (hts (.fieldLink RX0 9 "DeltaWindows$Caches" "near" "[I") (List.mem_of_getElem? (i := 1) rfl)) (fun _ h9 => h9) rfl dX0_become_6 ?_
  refine lv_iconst (v := (0 : Int32)) hx hb dX0_become_9 (by decide) ?_
  refine lv_iconst (v := (4 : Int32)) hx hb dX0_become_10 (by decide) ?_
  refine va_copyi (ty := .int) hx hb (by rw [hml]; exact hl.1.symm) hown (hts (.methodLink RX0 38 arraycopyName) (List.mem_of_getElem? (i := 2) rfl)) (hts (.native arraycopyName) (List.mem_of_getElem? (i := 3) rfl)) (hts (.static arraycopyName) (List.mem_of_getElem? (i := 4) rfl)) (hts (.initialized "java/lang/System") (List.mem_of_getElem? (i := 5) rfl)) hK hP hD hS 4 1 2 0 rfl rfl rfl rfl rfl (by decide) (by decide) (by decide) (by decide) (by decide) (fun i _ => rfl) (Nat.le_of_ble_eq_true rfl) (Nat.le_of_ble_eq_true rfl) dX0_become_11 (fun H locs hP hD hS => ?_)
  have hP : va_P D vwCl (wCC h an az cN cS h2 an2 az2 cN2 cS2 (va_cpy fn2 fn (0 : Int32).toNatClampNeg (0 : Int32).toNatClampNeg (4 : Int32).toNatClampNeg) fs cp fn2 fs2 cp2) H := hP
  have hD : va_D A (wCC h an az cN cS h2 an2 az2 cN2 cS2 (va_cpy fn2 fn (0 : Int32).toNatClampNeg (0 : Int32).toNatClampNeg (4 : Int32).toNatClampNeg) fs cp fn2 fs2 cp2) := hD
  refine lv_aload_n hx hb dX0_become_14 rfl (lv_at hl 1 rfl) ?_
  refine va_get (D := D) (ci := 0) (v := .ref az2) (C := RX0) (T := TX0) (N := 3) hx hb hts (fun w h => List.mem_cons_of_mem _ (List.mem_append_right _ h)) hown hK hP 3 rfl rfl 1 (by decide) (hts (.fieldLink RX0 15 "DeltaWindows$Caches" "same" "[I") (List.mem_of_getElem? (i := 6) rfl)) (fun _ h9 => h9) rfl dX0_become_15 ?_
  refine lv_iconst (v := (0 : Int32)) hx hb dX0_become_18 (by decide) ?_
  refine lv_aload_n hx hb dX0_become_19 rfl (lv_at hl 0 rfl) ?_
  refine va_get (D := D) (ci := 0) (v := .ref az) (C := RX0) (T := TX0) (N := 3) hx hb hts (fun w h => List.mem_cons_of_mem _ (List.mem_append_right _ h)) hown hK hP 0 rfl rfl 1 (by decide) (hts (.fieldLink RX0 15 "DeltaWindows$Caches" "same" "[I") (List.mem_of_getElem? (i := 6) rfl)) (fun _ h9 => h9) rfl dX0_become_20 ?_
  refine lv_iconst (v := (0 : Int32)) hx hb dX0_become_23 (by decide) ?_
  refine lv_sipush (v := (768 : Int32)) hx hb dX0_become_24 (by decide) ?_
  refine va_copyi (ty := .int) hx hb (by rw [hml]; exact hl.1.symm) hown (hts (.methodLink RX0 38 arraycopyName) (List.mem_of_getElem? (i := 2) rfl)) (hts (.native arraycopyName) (List.mem_of_getElem? (i := 3) rfl)) (hts (.static arraycopyName) (List.mem_of_getElem? (i := 4) rfl)) (hts (.initialized "java/lang/System") (List.mem_of_getElem? (i := 5) rfl)) hK hP hD hS 5 2 3 1 rfl rfl rfl rfl rfl (by decide) (by decide) (by decide) (by decide) (by decide) (fun i _ => rfl) (Nat.le_of_ble_eq_true rfl) (Nat.le_of_ble_eq_true rfl) dX0_become_27 (fun H locs hP hD hS => ?_)
  have hP : va_P D vwCl (wCC h an az cN cS h2 an2 az2 cN2 cS2 (va_cpy fn2 fn (0 : Int32).toNatClampNeg (0 : Int32).toNatClampNeg (4 : Int32).toNatClampNeg) (va_cpy fs2 fs (0 : Int32).toNatClampNeg (0 : Int32).toNatClampNeg (768 : Int32).toNatClampNeg) cp fn2 fs2 cp2) H := hP
  have hD : va_D A (wCC h an az cN cS h2 an2 az2 cN2 cS2 (va_cpy fn2 fn (0 : Int32).toNatClampNeg (0 : Int32).toNatClampNeg (4 : Int32).toNatClampNeg) (va_cpy fs2 fs (0 : Int32).toNatClampNeg (0 : Int32).toNatClampNeg (768 : Int32).toNatClampNeg) cp fn2 fs2 cp2) := hD
  refine lv_aload_n hx hb dX0_become_30 rfl (lv_at hl 0 rfl) ?_
  refine lv_aload_n hx hb dX0_become_31 rfl (lv_at hl 1 rfl) ?_
  refine va_get (D := D) (ci := 0) (v := .int cp2) (C := RX0) (T := TX0) (N := 3) hx hb hts (fun w h => List.mem_cons_of_mem _ (List.mem_append_right _ h)) hown hK hP 3 rfl rfl 2 (by decide) (hts (.fieldLink RX0 18 "DeltaWindows$Caches" "copies" "I") (List.mem_of_getElem? (i := 7) rfl)) (fun _ h9 => h9) rfl dX0_become_32 ?_
  refine va_put (D := D) (ci := 0) (v := .int cp2) (ty := .int) (C := RX0) (T := TX0) (N := 3) hx hb hts (fun w h => List.mem_cons_of_mem _ (List.mem_append_right _ h)) tyX0 tyX0_ok nmX0 hown hK hP hD hS 0 rfl rfl 2 (by decide) (hts (.fieldLink RX0 18 "DeltaWindows$Caches" "copies" "I") (List.mem_of_getElem? (i := 7) rfl)) (fun _ h9 => h9) rfl (by decide +kernel) rfl rfl (Nat.le_of_ble_eq_true rfl) dX0_become_35 (fun H locs hP hD hS => ?_)
  have hP : va_P D vwCl (wCC h an az cN cS h2 an2 az2 cN2 cS2 (va_cpy fn2 fn (0 : Int32).toNatClampNeg (0 : Int32).toNatClampNeg (4 : Int32).toNatClampNeg) (va_cpy fs2 fs (0 : Int32).toNatClampNeg (0 : Int32).toNatClampNeg (768 : Int32).toNatClampNeg) cp2 fn2 fs2 cp2) H := hP
  have hD : va_D A (wCC h an az cN cS h2 an2 az2 cN2 cS2 (va_cpy fn2 fn (0 : Int32).toNatClampNeg (0 : Int32).toNatClampNeg (4 : Int32).toNatClampNeg) (va_cpy fs2 fs (0 : Int32).toNatClampNeg (0 : Int32).toNatClampNeg (768 : Int32).toNatClampNeg) cp2 fn2 fs2 cp2) := hD
  obtain rfl := Option.some.inj hf
  exact k_retV hx hb hr hlocks hP hS dX0_become_38
end
section
noncomputable def fX1_partOfSingle (x0 : Int32) (x1 : Int32) : Option (Int32) :=
  if x0 = 0 then
    if x1 = 0 then
      some (2 : Int32)
    else
      some (0 : Int32)
  else
    if (19 : Int32) ≤ x0 then
      (if ((x0 - (19 : Int32)) - (x0 - (19 : Int32)) / (16 : Int32) * (16 : Int32)) = 0 then
          some (0 : Int32)
        else
          some ((((x0 - (19 : Int32)) - (x0 - (19 : Int32)) / (16 : Int32) * (16 : Int32)) + (4 : Int32)) - (1 : Int32)) : Option (Int32)).bind fun R5 =>
      if x1 = 0 then
        some (3 : Int32)
      else
        if x1 = (1 : Int32) then
          some R5
        else
          some ((x0 - (19 : Int32)) / (16 : Int32))
    else
      if x1 = 0 then
        some (1 : Int32)
      else
        if x1 = (1 : Int32) then
          some (x0 - (1 : Int32))
        else
          some (0 : Int32)

set_option maxHeartbeats 4000000 in
set_option maxRecDepth 100000 in
theorem kX1_partOfSingle (l : Launch) (D : va_G) (x0 : Int32) (x1 : Int32) {R : Int32} (hf : fX1_partOfSingle x0 x1 = some R) : MI l yX1_partOfSingle wsX1_partOfSingle (rmD 0) D ([.int x0, .int x1] : List Value) ([] : va_W) [] NT R ([] : va_W) := by
  refine MI.mk (cc := cX1_partOfSingle) (maxL := 5) (ret := (some .int)) (by first | decide | decide +kernel) rfl (Nat.le_of_ble_eq_true rfl) ?_
  intro p e s m below meth cd A ls hE
  obtain ⟨hx, hb, hr, hml, hts, hown, hlocks, hP, hK, hD, hA, hN, hAe, hl⟩ := hE
  have hown : s.vm.findClass RX1 = some m.cls := hown
  have hS : va_S A s.heap s.heap [] := va_S.rf
  have hl : lv_has ls 5 [(0, .int x0), (1, .int x1)] := hl
  rw [fX1_partOfSingle] at hf
  refine lv_iload_n hx hb dX1_partOfSingle_0 rfl (lv_at hl 0 rfl) ?_
  refine lv_if_ne (tgt := 14) hx hb dX1_partOfSingle_1 (by decide) (fun c1 => ?_) (fun c1 => ?_)
  · rw [if_neg c1] at hf
    refine lv_iload_n hx hb dX1_partOfSingle_14 rfl (lv_at hl 0 rfl) ?_
    refine lv_bipush (v := (19 : Int32)) hx hb dX1_partOfSingle_15 (by decide) ?_
    refine lv_icmp_ge (tgt := 43) hx hb dX1_partOfSingle_17 (by decide) (fun c2 => ?_) (fun c2 => ?_)
    · rw [if_pos c2] at hf
      refine lv_iload_n hx hb dX1_partOfSingle_43 rfl (lv_at hl 0 rfl) ?_
      refine lv_bipush (v := (19 : Int32)) hx hb dX1_partOfSingle_44 (by decide) ?_
      refine lv_isub hx hb dX1_partOfSingle_46 ?_
      refine lv_bipush (v := (16 : Int32)) hx hb dX1_partOfSingle_47 (by decide) ?_
      refine lv_irem hx hb dX1_partOfSingle_49 (by decide) ?_
      refine lv_istore_n (lv' := [(2, .int ((x0 - (19 : Int32)) - (x0 - (19 : Int32)) / (16 : Int32) * (16 : Int32))), (0, .int x0), (1, .int x1)]) hx hb dX1_partOfSingle_50 rfl hl (by decide) rfl (fun ls hl => ?_)
      refine lv_iload_n hx hb dX1_partOfSingle_51 rfl (lv_at hl 0 rfl) ?_
      obtain ⟨R5, hj11, hf⟩ := b_inv hf
      have kont : ∀ (H : Heap) (locs : List Loc) (ls : Array Slot), lv_has ls 5 [(0, .int x0), (1, .int x1)] → va_P D vwCl ([] : va_W) H → va_D A ([] : va_W) → va_S A s.heap H locs → W p l e (headSpec wsX1_partOfSingle (rmD 0)).room s m ([.int x0, .int x1] : List Value).toArray below meth cd H locs 0 0 (QI D below ([.int x0, .int x1] : List Value).toArray s A R ([] : va_W)) (F0 m 64 ls [.int R5]) := by
        intro H locs ls hl hP hD hS
        refine lv_istore_n (lv' := [(3, .int R5), (0, .int x0), (1, .int x1)]) hx hb dX1_partOfSingle_64 rfl hl (by decide) rfl (fun ls hl => ?_)
        refine lv_iload_n hx hb dX1_partOfSingle_65 rfl (lv_at hl 1 rfl) ?_
        refine lv_bipush (v := (19 : Int32)) hx hb dX1_partOfSingle_66 (by decide) ?_
        refine lv_isub hx hb dX1_partOfSingle_68 ?_
        refine lv_bipush (v := (16 : Int32)) hx hb dX1_partOfSingle_69 (by decide) ?_
        refine lv_idiv hx hb dX1_partOfSingle_71 (by decide) ?_
        refine lv_istore (lv' := [(4, .int ((x0 - (19 : Int32)) / (16 : Int32))), (3, .int R5), (0, .int x0), (1, .int x1)]) hx hb dX1_partOfSingle_72 hl (by decide) rfl (fun ls hl => ?_)
        refine lv_iload_n hx hb dX1_partOfSingle_74 rfl (lv_at hl 3 rfl) ?_
        refine lv_if_ne (tgt := 82) hx hb dX1_partOfSingle_75 (by decide) (fun c6 => ?_) (fun c6 => ?_)
        · rw [if_neg c6] at hf
          refine lv_iload_n hx hb dX1_partOfSingle_82 rfl (lv_at hl 3 rfl) ?_
          refine lv_iconst (v := (1 : Int32)) hx hb dX1_partOfSingle_83 (by decide) ?_
          refine lv_icmp_ne (tgt := 91) hx hb dX1_partOfSingle_84 (by decide) (fun c7 => ?_) (fun c7 => ?_)
          · rw [if_neg c7] at hf
            refine lv_iload hx hb dX1_partOfSingle_91 (lv_at hl 0 rfl) ?_
            obtain rfl := Option.some.inj hf
            exact k_retI hx hb hr hlocks hP hS dX1_partOfSingle_93
          · rw [if_pos c7] at hf
            refine lv_iload_n hx hb dX1_partOfSingle_87 rfl (lv_at hl 1 rfl) ?_
            refine lv_goto (tgt := 93) hx hb dX1_partOfSingle_88 (by decide) ?_
            obtain rfl := Option.some.inj hf
            exact k_retI hx hb hr hlocks hP hS dX1_partOfSingle_93
        · rw [if_pos c6] at hf
          refine lv_iconst (v := (3 : Int32)) hx hb dX1_partOfSingle_78 (by decide) ?_
          refine lv_goto (tgt := 93) hx hb dX1_partOfSingle_79 (by decide) ?_
          obtain rfl := Option.some.inj hf
          exact k_retI hx hb hr hlocks hP hS dX1_partOfSingle_93
      refine lv_if_ne (tgt := 59) hx hb dX1_partOfSingle_52 (by decide) (fun c4 => ?_) (fun c4 => ?_)
      · rw [if_neg c4] at hj11
        refine lv_iload_n hx hb dX1_partOfSingle_59 rfl (lv_at hl 0 rfl) ?_
        refine lv_iconst (v := (4 : Int32)) hx hb dX1_partOfSingle_60 (by decide) ?_
        refine lv_iadd hx hb dX1_partOfSingle_61 ?_
        refine lv_iconst (v := (1 : Int32)) hx hb dX1_partOfSingle_62 (by decide) ?_
        refine lv_isub hx hb dX1_partOfSingle_63 ?_
        obtain rfl := Option.some.inj hj11
        exact kont _ _ _ (lv_sub hl [1, 2] rfl) hP hD hS
      · rw [if_pos c4] at hj11
        refine lv_iconst (v := (0 : Int32)) hx hb dX1_partOfSingle_55 (by decide) ?_
        refine lv_goto (tgt := 64) hx hb dX1_partOfSingle_56 (by decide) ?_
        obtain rfl := Option.some.inj hj11
        exact kont _ _ _ (lv_sub hl [1, 2] rfl) hP hD hS
    · rw [if_neg c2] at hf
      refine lv_iload_n hx hb dX1_partOfSingle_20 rfl (lv_at hl 0 rfl) ?_
      refine lv_iconst (v := (1 : Int32)) hx hb dX1_partOfSingle_21 (by decide) ?_
      refine lv_isub hx hb dX1_partOfSingle_22 ?_
      refine lv_istore_n (lv' := [(2, .int (x0 - (1 : Int32))), (0, .int x0), (1, .int x1)]) hx hb dX1_partOfSingle_23 rfl hl (by decide) rfl (fun ls hl => ?_)
      refine lv_iload_n hx hb dX1_partOfSingle_24 rfl (lv_at hl 2 rfl) ?_
      refine lv_if_ne (tgt := 32) hx hb dX1_partOfSingle_25 (by decide) (fun c8 => ?_) (fun c8 => ?_)
      · rw [if_neg c8] at hf
        refine lv_iload_n hx hb dX1_partOfSingle_32 rfl (lv_at hl 2 rfl) ?_
        refine lv_iconst (v := (1 : Int32)) hx hb dX1_partOfSingle_33 (by decide) ?_
        refine lv_icmp_ne (tgt := 41) hx hb dX1_partOfSingle_34 (by decide) (fun c9 => ?_) (fun c9 => ?_)
        · rw [if_neg c9] at hf
          refine lv_iconst (v := (0 : Int32)) hx hb dX1_partOfSingle_41 (by decide) ?_
          obtain rfl := Option.some.inj hf
          exact k_retI hx hb hr hlocks hP hS dX1_partOfSingle_42
        · rw [if_pos c9] at hf
          refine lv_iload_n hx hb dX1_partOfSingle_37 rfl (lv_at hl 0 rfl) ?_
          refine lv_goto (tgt := 42) hx hb dX1_partOfSingle_38 (by decide) ?_
          obtain rfl := Option.some.inj hf
          exact k_retI hx hb hr hlocks hP hS dX1_partOfSingle_42
      · rw [if_pos c8] at hf
        refine lv_iconst (v := (1 : Int32)) hx hb dX1_partOfSingle_28 (by decide) ?_
        refine lv_goto (tgt := 42) hx hb dX1_partOfSingle_29 (by decide) ?_
        obtain rfl := Option.some.inj hf
        exact k_retI hx hb hr hlocks hP hS dX1_partOfSingle_42
  · rw [if_pos c1] at hf
    refine lv_iload_n hx hb dX1_partOfSingle_4 rfl (lv_at hl 1 rfl) ?_
    refine lv_if_ne (tgt := 12) hx hb dX1_partOfSingle_5 (by decide) (fun c10 => ?_) (fun c10 => ?_)
    · rw [if_neg c10] at hf
      refine lv_iconst (v := (0 : Int32)) hx hb dX1_partOfSingle_12 (by decide) ?_
      obtain rfl := Option.some.inj hf
      exact k_retI hx hb hr hlocks hP hS dX1_partOfSingle_13
    · rw [if_pos c10] at hf
      refine lv_iconst (v := (2 : Int32)) hx hb dX1_partOfSingle_8 (by decide) ?_
      refine lv_goto (tgt := 13) hx hb dX1_partOfSingle_9 (by decide) ?_
      obtain rfl := Option.some.inj hf
      exact k_retI hx hb hr hlocks hP hS dX1_partOfSingle_13

noncomputable def fX1_partOfAddCopy (x0 : Int32) (x1 : Int32) (x2 : Int32) (x3 : Int32) : Option (Int32) :=
  if x0 = (0 : Int32) then
    some (1 : Int32)
  else
    if x0 = (1 : Int32) then
      some x1
    else
      if x0 = (2 : Int32) then
        some (0 : Int32)
      else
        if x0 = (3 : Int32) then
          some (3 : Int32)
        else
          if x0 = (4 : Int32) then
            some x2
          else
            if x0 = (5 : Int32) then
              some x3
            else
              some (0 : Int32)

set_option maxHeartbeats 4000000 in
set_option maxRecDepth 100000 in
theorem kX1_partOfAddCopy (l : Launch) (D : va_G) (x0 : Int32) (x1 : Int32) (x2 : Int32) (x3 : Int32) {R : Int32} (hf : fX1_partOfAddCopy x0 x1 x2 x3 = some R) : MI l yX1_partOfAddCopy wsX1_partOfAddCopy (rmD 0) D ([.int x0, .int x1, .int x2, .int x3] : List Value) ([] : va_W) [] NT R ([] : va_W) := by
  refine MI.mk (cc := cX1_partOfAddCopy) (maxL := 4) (ret := (some .int)) (by first | decide | decide +kernel) rfl (Nat.le_of_ble_eq_true rfl) ?_
  intro p e s m below meth cd A ls hE
  obtain ⟨hx, hb, hr, hml, hts, hown, hlocks, hP, hK, hD, hA, hN, hAe, hl⟩ := hE
  have hown : s.vm.findClass RX1 = some m.cls := hown
  have hS : va_S A s.heap s.heap [] := va_S.rf
  have hl : lv_has ls 4 [(0, .int x0), (1, .int x1), (2, .int x2), (3, .int x3)] := hl
  rw [fX1_partOfAddCopy] at hf
  refine lv_iload_n hx hb dX1_partOfAddCopy_0 rfl (lv_at hl 0 rfl) ?_
  by_cases c1 : x0 = (0 : Int32)
  · rw [if_pos c1] at hf
    refine lv_tableIn (tgt := 40) hx hb dX1_partOfAddCopy_1 (by rw [c1]; decide) (by rw [c1]; decide) (by rw [c1]; rfl) (by decide) ?_
    refine lv_iconst (v := (1 : Int32)) hx hb dX1_partOfAddCopy_40 (by decide) ?_
    obtain rfl := Option.some.inj hf
    exact k_retI hx hb hr hlocks hP hS dX1_partOfAddCopy_41
  · rw [if_neg c1] at hf
    by_cases c2 : x0 = (1 : Int32)
    · rw [if_pos c2] at hf
      refine lv_tableIn (tgt := 42) hx hb dX1_partOfAddCopy_1 (by rw [c2]; decide) (by rw [c2]; decide) (by rw [c2]; rfl) (by decide) ?_
      refine lv_iload_n hx hb dX1_partOfAddCopy_42 rfl (lv_at hl 1 rfl) ?_
      obtain rfl := Option.some.inj hf
      exact k_retI hx hb hr hlocks hP hS dX1_partOfAddCopy_43
    · rw [if_neg c2] at hf
      by_cases c3 : x0 = (2 : Int32)
      · rw [if_pos c3] at hf
        refine lv_tableIn (tgt := 50) hx hb dX1_partOfAddCopy_1 (by rw [c3]; decide) (by rw [c3]; decide) (by rw [c3]; rfl) (by decide) ?_
        refine lv_iconst (v := (0 : Int32)) hx hb dX1_partOfAddCopy_50 (by decide) ?_
        obtain rfl := Option.some.inj hf
        exact k_retI hx hb hr hlocks hP hS dX1_partOfAddCopy_51
      · rw [if_neg c3] at hf
        by_cases c4 : x0 = (3 : Int32)
        · rw [if_pos c4] at hf
          refine lv_tableIn (tgt := 44) hx hb dX1_partOfAddCopy_1 (by rw [c4]; decide) (by rw [c4]; decide) (by rw [c4]; rfl) (by decide) ?_
          refine lv_iconst (v := (3 : Int32)) hx hb dX1_partOfAddCopy_44 (by decide) ?_
          obtain rfl := Option.some.inj hf
          exact k_retI hx hb hr hlocks hP hS dX1_partOfAddCopy_45
        · rw [if_neg c4] at hf
          by_cases c5 : x0 = (4 : Int32)
          · rw [if_pos c5] at hf
            refine lv_tableIn (tgt := 46) hx hb dX1_partOfAddCopy_1 (by rw [c5]; decide) (by rw [c5]; decide) (by rw [c5]; rfl) (by decide) ?_
            refine lv_iload_n hx hb dX1_partOfAddCopy_46 rfl (lv_at hl 2 rfl) ?_
            obtain rfl := Option.some.inj hf
            exact k_retI hx hb hr hlocks hP hS dX1_partOfAddCopy_47
          · rw [if_neg c5] at hf
            by_cases c6 : x0 = (5 : Int32)
            · rw [if_pos c6] at hf
              refine lv_tableIn (tgt := 48) hx hb dX1_partOfAddCopy_1 (by rw [c6]; decide) (by rw [c6]; decide) (by rw [c6]; rfl) (by decide) ?_
              refine lv_iload_n hx hb dX1_partOfAddCopy_48 rfl (lv_at hl 3 rfl) ?_
              obtain rfl := Option.some.inj hf
              exact k_retI hx hb hr hlocks hP hS dX1_partOfAddCopy_49
            · rw [if_neg c6] at hf
              refine lv_tableOut (tgt := 50) hx hb dX1_partOfAddCopy_1 (by have := lv_neT (a := 0) c1 (by decide); have := lv_neT (a := 1) c2 (by decide); have := lv_neT (a := 2) c3 (by decide); have := lv_neT (a := 3) c4 (by decide); have := lv_neT (a := 4) c5 (by decide); have := lv_neT (a := 5) c6 (by decide); omega) (by decide) ?_
              refine lv_iconst (v := (0 : Int32)) hx hb dX1_partOfAddCopy_50 (by decide) ?_
              obtain rfl := Option.some.inj hf
              exact k_retI hx hb hr hlocks hP hS dX1_partOfAddCopy_51

noncomputable def fX1_partOfCopyAdd (x0 : Int32) (x1 : Int32) : Option (Int32) :=
  if x0 = (0 : Int32) then
    some (3 : Int32)
  else
    if x0 = (1 : Int32) then
      some (4 : Int32)
    else
      if x0 = (2 : Int32) then
        some x1
      else
        if x0 = (3 : Int32) then
          some (1 : Int32)
        else
          if x0 = (4 : Int32) then
            some (1 : Int32)
          else
            some (0 : Int32)

set_option maxHeartbeats 4000000 in
set_option maxRecDepth 100000 in
theorem kX1_partOfCopyAdd (l : Launch) (D : va_G) (x0 : Int32) (x1 : Int32) {R : Int32} (hf : fX1_partOfCopyAdd x0 x1 = some R) : MI l yX1_partOfCopyAdd wsX1_partOfCopyAdd (rmD 0) D ([.int x0, .int x1] : List Value) ([] : va_W) [] NT R ([] : va_W) := by
  refine MI.mk (cc := cX1_partOfCopyAdd) (maxL := 2) (ret := (some .int)) (by first | decide | decide +kernel) rfl (Nat.le_of_ble_eq_true rfl) ?_
  intro p e s m below meth cd A ls hE
  obtain ⟨hx, hb, hr, hml, hts, hown, hlocks, hP, hK, hD, hA, hN, hAe, hl⟩ := hE
  have hown : s.vm.findClass RX1 = some m.cls := hown
  have hS : va_S A s.heap s.heap [] := va_S.rf
  have hl : lv_has ls 2 [(0, .int x0), (1, .int x1)] := hl
  rw [fX1_partOfCopyAdd] at hf
  refine lv_iload_n hx hb dX1_partOfCopyAdd_0 rfl (lv_at hl 0 rfl) ?_
  by_cases c1 : x0 = (0 : Int32)
  · rw [if_pos c1] at hf
    refine lv_tableIn (tgt := 36) hx hb dX1_partOfCopyAdd_1 (by rw [c1]; decide) (by rw [c1]; decide) (by rw [c1]; rfl) (by decide) ?_
    refine lv_iconst (v := (3 : Int32)) hx hb dX1_partOfCopyAdd_36 (by decide) ?_
    obtain rfl := Option.some.inj hf
    exact k_retI hx hb hr hlocks hP hS dX1_partOfCopyAdd_37
  · rw [if_neg c1] at hf
    by_cases c2 : x0 = (1 : Int32)
    · rw [if_pos c2] at hf
      refine lv_tableIn (tgt := 38) hx hb dX1_partOfCopyAdd_1 (by rw [c2]; decide) (by rw [c2]; decide) (by rw [c2]; rfl) (by decide) ?_
      refine lv_iconst (v := (4 : Int32)) hx hb dX1_partOfCopyAdd_38 (by decide) ?_
      obtain rfl := Option.some.inj hf
      exact k_retI hx hb hr hlocks hP hS dX1_partOfCopyAdd_39
    · rw [if_neg c2] at hf
      by_cases c3 : x0 = (2 : Int32)
      · rw [if_pos c3] at hf
        refine lv_tableIn (tgt := 40) hx hb dX1_partOfCopyAdd_1 (by rw [c3]; decide) (by rw [c3]; decide) (by rw [c3]; rfl) (by decide) ?_
        refine lv_iload_n hx hb dX1_partOfCopyAdd_40 rfl (lv_at hl 1 rfl) ?_
        obtain rfl := Option.some.inj hf
        exact k_retI hx hb hr hlocks hP hS dX1_partOfCopyAdd_41
      · rw [if_neg c3] at hf
        by_cases c4 : x0 = (3 : Int32)
        · rw [if_pos c4] at hf
          refine lv_tableIn (tgt := 42) hx hb dX1_partOfCopyAdd_1 (by rw [c4]; decide) (by rw [c4]; decide) (by rw [c4]; rfl) (by decide) ?_
          refine lv_iconst (v := (1 : Int32)) hx hb dX1_partOfCopyAdd_42 (by decide) ?_
          obtain rfl := Option.some.inj hf
          exact k_retI hx hb hr hlocks hP hS dX1_partOfCopyAdd_43
        · rw [if_neg c4] at hf
          by_cases c5 : x0 = (4 : Int32)
          · rw [if_pos c5] at hf
            refine lv_tableIn (tgt := 44) hx hb dX1_partOfCopyAdd_1 (by rw [c5]; decide) (by rw [c5]; decide) (by rw [c5]; rfl) (by decide) ?_
            refine lv_iconst (v := (1 : Int32)) hx hb dX1_partOfCopyAdd_44 (by decide) ?_
            obtain rfl := Option.some.inj hf
            exact k_retI hx hb hr hlocks hP hS dX1_partOfCopyAdd_45
          · rw [if_neg c5] at hf
            refine lv_tableOut (tgt := 46) hx hb dX1_partOfCopyAdd_1 (by have := lv_neT (a := 0) c1 (by decide); have := lv_neT (a := 1) c2 (by decide); have := lv_neT (a := 2) c3 (by decide); have := lv_neT (a := 3) c4 (by decide); have := lv_neT (a := 4) c5 (by decide); omega) (by decide) ?_
            refine lv_iconst (v := (0 : Int32)) hx hb dX1_partOfCopyAdd_46 (by decide) ?_
            obtain rfl := Option.some.inj hf
            exact k_retI hx hb hr hlocks hP hS dX1_partOfCopyAdd_47

noncomputable def fX1_partOf (x0 : Int32) (x1 : Int32) : Option (Int32) :=
  if (163 : Int32) ≤ x0 then
    if (235 : Int32) ≤ x0 then
      if (247 : Int32) ≤ x0 then
        (fX1_partOfCopyAdd x1 (x0 - (247 : Int32))).bind fun R4 =>
        some R4
      else
        (fX1_partOfAddCopy x1 (((x0 - (235 : Int32)) - (x0 - (235 : Int32)) / (4 : Int32) * (4 : Int32)) + (1 : Int32)) (4 : Int32) (((x0 - (235 : Int32)) / (4 : Int32)) + (6 : Int32))).bind fun R6 =>
        some R6
    else
      (fX1_partOfAddCopy x1 ((((x0 - (163 : Int32)) - (x0 - (163 : Int32)) / (12 : Int32) * (12 : Int32)) / (3 : Int32)) + (1 : Int32)) (((x0 - (163 : Int32)) - (x0 - (163 : Int32)) / (3 : Int32) * (3 : Int32)) + (4 : Int32)) ((x0 - (163 : Int32)) / (12 : Int32))).bind fun R8 =>
      some R8
  else
    if (3 : Int32) ≤ x1 then
      some (0 : Int32)
    else
      (fX1_partOfSingle x0 x1).bind fun R11 =>
      some R11

set_option maxHeartbeats 4000000 in
set_option maxRecDepth 100000 in
theorem kX1_partOf (l : Launch) (D : va_G) (x0 : Int32) (x1 : Int32) {R : Int32} (hf : fX1_partOf x0 x1 = some R) : MI l yX1_partOf wsX1_partOf (rmD 1) D ([.int x0, .int x1] : List Value) ([] : va_W) [] NT R ([] : va_W) := by
  refine MI.mk (cc := cX1_partOf) (maxL := 5) (ret := (some .int)) (by first | decide | decide +kernel) rfl (Nat.le_of_ble_eq_true rfl) ?_
  intro p e s m below meth cd A ls hE
  obtain ⟨hx, hb, hr, hml, hts, hown, hlocks, hP, hK, hD, hA, hN, hAe, hl⟩ := hE
  have hown : s.vm.findClass RX1 = some m.cls := hown
  have hS : va_S A s.heap s.heap [] := va_S.rf
  have hl : lv_has ls 5 [(0, .int x0), (1, .int x1)] := hl
  rw [fX1_partOf] at hf
  refine lv_iload_n hx hb dX1_partOf_0 rfl (lv_at hl 0 rfl) ?_
  refine lv_sipush (v := (163 : Int32)) hx hb dX1_partOf_1 (by decide) ?_
  refine lv_icmp_ge (tgt := 22) hx hb dX1_partOf_4 (by decide) (fun c1 => ?_) (fun c1 => ?_)
  · rw [if_pos c1] at hf
    refine lv_iload_n hx hb dX1_partOf_22 rfl (lv_at hl 0 rfl) ?_
    refine lv_sipush (v := (235 : Int32)) hx hb dX1_partOf_23 (by decide) ?_
    refine lv_icmp_ge (tgt := 63) hx hb dX1_partOf_26 (by decide) (fun c2 => ?_) (fun c2 => ?_)
    · rw [if_pos c2] at hf
      refine lv_iload_n hx hb dX1_partOf_63 rfl (lv_at hl 0 rfl) ?_
      refine lv_sipush (v := (247 : Int32)) hx hb dX1_partOf_64 (by decide) ?_
      refine lv_icmp_ge (tgt := 95) hx hb dX1_partOf_67 (by decide) (fun c3 => ?_) (fun c3 => ?_)
      · rw [if_pos c3] at hf
        refine lv_iload_n hx hb dX1_partOf_95 rfl (lv_at hl 1 rfl) ?_
        refine lv_iload_n hx hb dX1_partOf_96 rfl (lv_at hl 0 rfl) ?_
        refine lv_sipush (v := (247 : Int32)) hx hb dX1_partOf_97 (by decide) ?_
        refine lv_isub hx hb dX1_partOf_100 ?_
        obtain ⟨R4, hc5, hf⟩ := b_inv hf
        have hk := kcut (wc := ([] : va_W)) (wc' := ([] : va_W)) (wf := ([] : va_W)) hP hD hS hA [] rfl (by decide) rfl rfl
        refine k_goI (va_runS (As := [.int x1, .int (x0 - (247 : Int32))]) (rest := []) ⟨hx, hb, hml, hown, hts⟩ (kX1_partOfCopyAdd l D x1 (x0 - (247 : Int32)) hc5 _) ⟨callB_of 2 hts ggX1_partOf_X1_partOfCopyAdd rfl rfl rfl (hts (.initialized RX1) (List.mem_of_getElem? (i := 3) rfl)) (hts (.methodLink RX1 19 yX1_partOfCopyAdd) (List.mem_of_getElem? (i := 8) rfl)) (by decide +kernel) ⟨Nat.le_of_ble_eq_true rfl, Nat.le_of_ble_eq_true rfl⟩, (hts (.static yX1_partOfCopyAdd) (List.mem_of_getElem? (i := 9) rfl))⟩ (k_preS hk (hK.sub [] rfl) NT_bl NT_u) rfl rfl hl.1 rfl (lv_room (Nat.le_of_ble_eq_true rfl)) dX1_partOf_101 ⟨Nat.zero_le _, Nat.zero_le _⟩) hk hS (fun H locs hP hD hS => ?_)
        obtain rfl := Option.some.inj hf
        exact k_retI hx hb hr hlocks hP hS dX1_partOf_104
      · rw [if_neg c3] at hf
        refine lv_iload_n hx hb dX1_partOf_70 rfl (lv_at hl 0 rfl) ?_
        refine lv_sipush (v := (235 : Int32)) hx hb dX1_partOf_71 (by decide) ?_
        refine lv_isub hx hb dX1_partOf_74 ?_
        refine lv_istore_n (lv' := [(2, .int (x0 - (235 : Int32))), (0, .int x0), (1, .int x1)]) hx hb dX1_partOf_75 rfl hl (by decide) rfl (fun ls hl => ?_)
        refine lv_iload_n hx hb dX1_partOf_76 rfl (lv_at hl 0 rfl) ?_
        refine lv_iconst (v := (4 : Int32)) hx hb dX1_partOf_77 (by decide) ?_
        refine lv_idiv hx hb dX1_partOf_78 (by decide) ?_
        refine lv_bipush (v := (6 : Int32)) hx hb dX1_partOf_79 (by decide) ?_
        refine lv_iadd hx hb dX1_partOf_81 ?_
        refine lv_istore_n (lv' := [(3, .int (((x0 - (235 : Int32)) / (4 : Int32)) + (6 : Int32))), (2, .int (x0 - (235 : Int32))), (0, .int x0), (1, .int x1)]) hx hb dX1_partOf_82 rfl hl (by decide) rfl (fun ls hl => ?_)
        refine lv_iload_n hx hb dX1_partOf_83 rfl (lv_at hl 3 rfl) ?_
        refine lv_iload_n hx hb dX1_partOf_84 rfl (lv_at hl 1 rfl) ?_
        refine lv_iconst (v := (4 : Int32)) hx hb dX1_partOf_85 (by decide) ?_
        refine lv_irem hx hb dX1_partOf_86 (by decide) ?_
        refine lv_iconst (v := (1 : Int32)) hx hb dX1_partOf_87 (by decide) ?_
        refine lv_iadd hx hb dX1_partOf_88 ?_
        refine lv_iconst (v := (4 : Int32)) hx hb dX1_partOf_89 (by decide) ?_
        refine lv_iload_n hx hb dX1_partOf_90 rfl (lv_at hl 0 rfl) ?_
        obtain ⟨R6, hc7, hf⟩ := b_inv hf
        have hk := kcut (wc := ([] : va_W)) (wc' := ([] : va_W)) (wf := ([] : va_W)) hP hD hS hA [] rfl (by decide) rfl rfl
        refine k_goI (va_runS (As := [.int x1, .int (((x0 - (235 : Int32)) - (x0 - (235 : Int32)) / (4 : Int32) * (4 : Int32)) + (1 : Int32)), .int (4 : Int32), .int (((x0 - (235 : Int32)) / (4 : Int32)) + (6 : Int32))]) (rest := []) ⟨hx, hb, hml, hown, hts⟩ (kX1_partOfAddCopy l D x1 (((x0 - (235 : Int32)) - (x0 - (235 : Int32)) / (4 : Int32) * (4 : Int32)) + (1 : Int32)) (4 : Int32) (((x0 - (235 : Int32)) / (4 : Int32)) + (6 : Int32)) hc7 _) ⟨callB_of 4 hts ggX1_partOf_X1_partOfAddCopy rfl rfl rfl (hts (.initialized RX1) (List.mem_of_getElem? (i := 3) rfl)) (hts (.methodLink RX1 15 yX1_partOfAddCopy) (List.mem_of_getElem? (i := 5) rfl)) (by decide +kernel) ⟨Nat.le_of_ble_eq_true rfl, Nat.le_of_ble_eq_true rfl⟩, (hts (.static yX1_partOfAddCopy) (List.mem_of_getElem? (i := 6) rfl))⟩ (k_preS hk (hK.sub [] rfl) NT_bl NT_u) rfl rfl hl.1 rfl (lv_room (Nat.le_of_ble_eq_true rfl)) dX1_partOf_91 ⟨Nat.zero_le _, Nat.zero_le _⟩) hk hS (fun H locs hP hD hS => ?_)
        obtain rfl := Option.some.inj hf
        exact k_retI hx hb hr hlocks hP hS dX1_partOf_94
    · rw [if_neg c2] at hf
      refine lv_iload_n hx hb dX1_partOf_29 rfl (lv_at hl 0 rfl) ?_
      refine lv_sipush (v := (163 : Int32)) hx hb dX1_partOf_30 (by decide) ?_
      refine lv_isub hx hb dX1_partOf_33 ?_
      refine lv_istore_n (lv' := [(2, .int (x0 - (163 : Int32))), (0, .int x0), (1, .int x1)]) hx hb dX1_partOf_34 rfl hl (by decide) rfl (fun ls hl => ?_)
      refine lv_iload_n hx hb dX1_partOf_35 rfl (lv_at hl 0 rfl) ?_
      refine lv_bipush (v := (12 : Int32)) hx hb dX1_partOf_36 (by decide) ?_
      refine lv_idiv hx hb dX1_partOf_38 (by decide) ?_
      refine lv_istore_n (lv' := [(3, .int ((x0 - (163 : Int32)) / (12 : Int32))), (2, .int (x0 - (163 : Int32))), (0, .int x0), (1, .int x1)]) hx hb dX1_partOf_39 rfl hl (by decide) rfl (fun ls hl => ?_)
      refine lv_iload_n hx hb dX1_partOf_40 rfl (lv_at hl 1 rfl) ?_
      refine lv_bipush (v := (12 : Int32)) hx hb dX1_partOf_41 (by decide) ?_
      refine lv_irem hx hb dX1_partOf_43 (by decide) ?_
      refine lv_iconst (v := (3 : Int32)) hx hb dX1_partOf_44 (by decide) ?_
      refine lv_idiv hx hb dX1_partOf_45 (by decide) ?_
      refine lv_iconst (v := (1 : Int32)) hx hb dX1_partOf_46 (by decide) ?_
      refine lv_iadd hx hb dX1_partOf_47 ?_
      refine lv_istore (lv' := [(4, .int ((((x0 - (163 : Int32)) - (x0 - (163 : Int32)) / (12 : Int32) * (12 : Int32)) / (3 : Int32)) + (1 : Int32))), (3, .int ((x0 - (163 : Int32)) / (12 : Int32))), (2, .int (x0 - (163 : Int32))), (0, .int x0), (1, .int x1)]) hx hb dX1_partOf_48 hl (by decide) rfl (fun ls hl => ?_)
      refine lv_iload_n hx hb dX1_partOf_50 rfl (lv_at hl 4 rfl) ?_
      refine lv_iload hx hb dX1_partOf_51 (lv_at hl 0 rfl) ?_
      refine lv_iload_n hx hb dX1_partOf_53 rfl (lv_at hl 2 rfl) ?_
      refine lv_iconst (v := (3 : Int32)) hx hb dX1_partOf_54 (by decide) ?_
      refine lv_irem hx hb dX1_partOf_55 (by decide) ?_
      refine lv_iconst (v := (4 : Int32)) hx hb dX1_partOf_56 (by decide) ?_
      refine lv_iadd hx hb dX1_partOf_57 ?_
      refine lv_iload_n hx hb dX1_partOf_58 rfl (lv_at hl 1 rfl) ?_
      obtain ⟨R8, hc9, hf⟩ := b_inv hf
      have hk := kcut (wc := ([] : va_W)) (wc' := ([] : va_W)) (wf := ([] : va_W)) hP hD hS hA [] rfl (by decide) rfl rfl
      refine k_goI (va_runS (As := [.int x1, .int ((((x0 - (163 : Int32)) - (x0 - (163 : Int32)) / (12 : Int32) * (12 : Int32)) / (3 : Int32)) + (1 : Int32)), .int (((x0 - (163 : Int32)) - (x0 - (163 : Int32)) / (3 : Int32) * (3 : Int32)) + (4 : Int32)), .int ((x0 - (163 : Int32)) / (12 : Int32))]) (rest := []) ⟨hx, hb, hml, hown, hts⟩ (kX1_partOfAddCopy l D x1 ((((x0 - (163 : Int32)) - (x0 - (163 : Int32)) / (12 : Int32) * (12 : Int32)) / (3 : Int32)) + (1 : Int32)) (((x0 - (163 : Int32)) - (x0 - (163 : Int32)) / (3 : Int32) * (3 : Int32)) + (4 : Int32)) ((x0 - (163 : Int32)) / (12 : Int32)) hc9 _) ⟨callB_of 4 hts ggX1_partOf_X1_partOfAddCopy rfl rfl rfl (hts (.initialized RX1) (List.mem_of_getElem? (i := 3) rfl)) (hts (.methodLink RX1 15 yX1_partOfAddCopy) (List.mem_of_getElem? (i := 5) rfl)) (by decide +kernel) ⟨Nat.le_of_ble_eq_true rfl, Nat.le_of_ble_eq_true rfl⟩, (hts (.static yX1_partOfAddCopy) (List.mem_of_getElem? (i := 6) rfl))⟩ (k_preS hk (hK.sub [] rfl) NT_bl NT_u) rfl rfl hl.1 rfl (lv_room (Nat.le_of_ble_eq_true rfl)) dX1_partOf_59 ⟨Nat.zero_le _, Nat.zero_le _⟩) hk hS (fun H locs hP hD hS => ?_)
      obtain rfl := Option.some.inj hf
      exact k_retI hx hb hr hlocks hP hS dX1_partOf_62
  · rw [if_neg c1] at hf
    refine lv_iload_n hx hb dX1_partOf_7 rfl (lv_at hl 1 rfl) ?_
    refine lv_iconst (v := (3 : Int32)) hx hb dX1_partOf_8 (by decide) ?_
    refine lv_icmp_ge (tgt := 20) hx hb dX1_partOf_9 (by decide) (fun c10 => ?_) (fun c10 => ?_)
    · rw [if_pos c10] at hf
      refine lv_iconst (v := (0 : Int32)) hx hb dX1_partOf_20 (by decide) ?_
      obtain rfl := Option.some.inj hf
      exact k_retI hx hb hr hlocks hP hS dX1_partOf_21
    · rw [if_neg c10] at hf
      refine lv_iload_n hx hb dX1_partOf_12 rfl (lv_at hl 0 rfl) ?_
      refine lv_iload_n hx hb dX1_partOf_13 rfl (lv_at hl 1 rfl) ?_
      obtain ⟨R11, hc12, hf⟩ := b_inv hf
      have hk := kcut (wc := ([] : va_W)) (wc' := ([] : va_W)) (wf := ([] : va_W)) hP hD hS hA [] rfl (by decide) rfl rfl
      refine k_goI (va_runS (As := [.int x0, .int x1]) (rest := []) ⟨hx, hb, hml, hown, hts⟩ (kX1_partOfSingle l D x0 x1 hc12 _) ⟨callB_of 2 hts ggX1_partOf_X1_partOfSingle rfl rfl rfl (hts (.initialized RX1) (List.mem_of_getElem? (i := 3) rfl)) (hts (.methodLink RX1 11 yX1_partOfSingle) (List.mem_of_getElem? (i := 1) rfl)) (by decide +kernel) ⟨Nat.le_of_ble_eq_true rfl, Nat.le_of_ble_eq_true rfl⟩, (hts (.static yX1_partOfSingle) (List.mem_of_getElem? (i := 2) rfl))⟩ (k_preS hk (hK.sub [] rfl) NT_bl NT_u) rfl rfl hl.1 rfl (lv_room (Nat.le_of_ble_eq_true rfl)) dX1_partOf_14 ⟨Nat.zero_le _, Nat.zero_le _⟩) hk hS (fun H locs hP hD hS => ?_)
      refine lv_goto (tgt := 21) hx hb dX1_partOf_17 (by decide) ?_
      obtain rfl := Option.some.inj hf
      exact k_retI hx hb hr hlocks hP hS dX1_partOf_21

noncomputable def fX1_single (x0 : Int32) (x1 : Int32) (x2 : Int32) : Option (Int32) :=
  if x0 = (2 : Int32) then
    some (0 : Int32)
  else
    if x0 = (1 : Int32) then
      if (17 : Int32) < x1 then
        some (1 : Int32)
      else
        some ((1 : Int32) + x1)
    else
      if x1 < (4 : Int32) then
        some ((19 : Int32) + ((16 : Int32) * x2))
      else
        if (18 : Int32) < x1 then
          some ((19 : Int32) + ((16 : Int32) * x2))
        else
          some (((((19 : Int32) + ((16 : Int32) * x2)) + x1) - (4 : Int32)) + (1 : Int32))

set_option maxHeartbeats 4000000 in
set_option maxRecDepth 100000 in
theorem kX1_single (l : Launch) (D : va_G) (x0 : Int32) (x1 : Int32) (x2 : Int32) {R : Int32} (hf : fX1_single x0 x1 x2 = some R) : MI l yX1_single wsX1_single (rmD 0) D ([.int x0, .int x1, .int x2] : List Value) ([] : va_W) [] NT R ([] : va_W) := by
  refine MI.mk (cc := cX1_single) (maxL := 5) (ret := (some .int)) (by first | decide | decide +kernel) rfl (Nat.le_of_ble_eq_true rfl) ?_
  intro p e s m below meth cd A ls hE
  obtain ⟨hx, hb, hr, hml, hts, hown, hlocks, hP, hK, hD, hA, hN, hAe, hl⟩ := hE
  have hown : s.vm.findClass RX1 = some m.cls := hown
  have hS : va_S A s.heap s.heap [] := va_S.rf
  have hl : lv_has ls 5 [(0, .int x0), (1, .int x1), (2, .int x2)] := hl
  rw [fX1_single] at hf
  refine lv_iload_n hx hb dX1_single_0 rfl (lv_at hl 0 rfl) ?_
  refine lv_iconst (v := (2 : Int32)) hx hb dX1_single_1 (by decide) ?_
  refine lv_icmp_ne (tgt := 7) hx hb dX1_single_2 (by decide) (fun c1 => ?_) (fun c1 => ?_)
  · rw [if_neg c1] at hf
    refine lv_iload_n hx hb dX1_single_7 rfl (lv_at hl 0 rfl) ?_
    refine lv_iconst (v := (1 : Int32)) hx hb dX1_single_8 (by decide) ?_
    refine lv_icmp_ne (tgt := 26) hx hb dX1_single_9 (by decide) (fun c2 => ?_) (fun c2 => ?_)
    · rw [if_neg c2] at hf
      refine lv_bipush (v := (19 : Int32)) hx hb dX1_single_26 (by decide) ?_
      refine lv_bipush (v := (16 : Int32)) hx hb dX1_single_28 (by decide) ?_
      refine lv_iload_n hx hb dX1_single_30 rfl (lv_at hl 2 rfl) ?_
      refine lv_imul hx hb dX1_single_31 ?_
      refine lv_iadd hx hb dX1_single_32 ?_
      refine lv_istore_n (lv' := [(3, .int ((19 : Int32) + ((16 : Int32) * x2))), (0, .int x0), (1, .int x1), (2, .int x2)]) hx hb dX1_single_33 rfl hl (by decide) rfl (fun ls hl => ?_)
      refine lv_iload_n hx hb dX1_single_34 rfl (lv_at hl 2 rfl) ?_
      refine lv_iconst (v := (4 : Int32)) hx hb dX1_single_35 (by decide) ?_
      refine lv_icmp_lt (tgt := 49) hx hb dX1_single_36 (by decide) (fun c3 => ?_) (fun c3 => ?_)
      · rw [if_pos c3] at hf
        refine lv_iconst (v := (0 : Int32)) hx hb dX1_single_49 (by decide) ?_
        refine lv_istore (lv' := [(4, .int (0 : Int32)), (3, .int ((19 : Int32) + ((16 : Int32) * x2))), (0, .int x0), (1, .int x1), (2, .int x2)]) hx hb dX1_single_50 hl (by decide) rfl (fun ls hl => ?_)
        refine lv_iload hx hb dX1_single_52 (lv_at hl 0 rfl) ?_
        refine lv_if_eq (tgt := 67) hx hb dX1_single_54 (by decide) (fun _ => ?_) (fun c4 => absurd c4 (by decide))
        refine lv_iload_n hx hb dX1_single_67 rfl (lv_at hl 1 rfl) ?_
        obtain rfl := Option.some.inj hf
        exact k_retI hx hb hr hlocks hP hS dX1_single_68
      · rw [if_neg c3] at hf
        refine lv_iload_n hx hb dX1_single_39 rfl (lv_at hl 2 rfl) ?_
        refine lv_bipush (v := (18 : Int32)) hx hb dX1_single_40 (by decide) ?_
        refine lv_icmp_gt (tgt := 49) hx hb dX1_single_42 (by decide) (fun c5 => ?_) (fun c5 => ?_)
        · rw [if_pos c5] at hf
          refine lv_iconst (v := (0 : Int32)) hx hb dX1_single_49 (by decide) ?_
          refine lv_istore (lv' := [(4, .int (0 : Int32)), (3, .int ((19 : Int32) + ((16 : Int32) * x2))), (0, .int x0), (1, .int x1), (2, .int x2)]) hx hb dX1_single_50 hl (by decide) rfl (fun ls hl => ?_)
          refine lv_iload hx hb dX1_single_52 (lv_at hl 0 rfl) ?_
          refine lv_if_eq (tgt := 67) hx hb dX1_single_54 (by decide) (fun _ => ?_) (fun c6 => absurd c6 (by decide))
          refine lv_iload_n hx hb dX1_single_67 rfl (lv_at hl 1 rfl) ?_
          obtain rfl := Option.some.inj hf
          exact k_retI hx hb hr hlocks hP hS dX1_single_68
        · rw [if_neg c5] at hf
          refine lv_iconst (v := (1 : Int32)) hx hb dX1_single_45 (by decide) ?_
          refine lv_goto (tgt := 50) hx hb dX1_single_46 (by decide) ?_
          refine lv_istore (lv' := [(4, .int (1 : Int32)), (3, .int ((19 : Int32) + ((16 : Int32) * x2))), (0, .int x0), (1, .int x1), (2, .int x2)]) hx hb dX1_single_50 hl (by decide) rfl (fun ls hl => ?_)
          refine lv_iload hx hb dX1_single_52 (lv_at hl 0 rfl) ?_
          refine lv_if_eq (tgt := 67) hx hb dX1_single_54 (by decide) (fun c7 => absurd c7 (by decide)) (fun _ => ?_)
          refine lv_iload_n hx hb dX1_single_57 rfl (lv_at hl 1 rfl) ?_
          refine lv_iload_n hx hb dX1_single_58 rfl (lv_at hl 3 rfl) ?_
          refine lv_iadd hx hb dX1_single_59 ?_
          refine lv_iconst (v := (4 : Int32)) hx hb dX1_single_60 (by decide) ?_
          refine lv_isub hx hb dX1_single_61 ?_
          refine lv_iconst (v := (1 : Int32)) hx hb dX1_single_62 (by decide) ?_
          refine lv_iadd hx hb dX1_single_63 ?_
          refine lv_goto (tgt := 68) hx hb dX1_single_64 (by decide) ?_
          obtain rfl := Option.some.inj hf
          exact k_retI hx hb hr hlocks hP hS dX1_single_68
    · rw [if_pos c2] at hf
      refine lv_iload_n hx hb dX1_single_12 rfl (lv_at hl 1 rfl) ?_
      refine lv_bipush (v := (17 : Int32)) hx hb dX1_single_13 (by decide) ?_
      refine lv_icmp_gt (tgt := 24) hx hb dX1_single_15 (by decide) (fun c8 => ?_) (fun c8 => ?_)
      · rw [if_pos c8] at hf
        refine lv_iconst (v := (1 : Int32)) hx hb dX1_single_24 (by decide) ?_
        obtain rfl := Option.some.inj hf
        exact k_retI hx hb hr hlocks hP hS dX1_single_25
      · rw [if_neg c8] at hf
        refine lv_iconst (v := (1 : Int32)) hx hb dX1_single_18 (by decide) ?_
        refine lv_iload_n hx hb dX1_single_19 rfl (lv_at hl 1 rfl) ?_
        refine lv_iadd hx hb dX1_single_20 ?_
        refine lv_goto (tgt := 25) hx hb dX1_single_21 (by decide) ?_
        obtain rfl := Option.some.inj hf
        exact k_retI hx hb hr hlocks hP hS dX1_single_25
  · rw [if_pos c1] at hf
    refine lv_iconst (v := (0 : Int32)) hx hb dX1_single_5 (by decide) ?_
    obtain rfl := Option.some.inj hf
    exact k_retI hx hb hr hlocks hP hS dX1_single_6

noncomputable def fX1_addThenCopy (x0 : Int32) (x1 : Int32) (x2 : Int32) : Option (Int32) :=
  if x0 < (1 : Int32) then
    some (-1 : Int32)
  else
    if (4 : Int32) < x0 then
      some (-1 : Int32)
    else
      if (4 : Int32) ≤ x1 then
        if (6 : Int32) ≤ x2 then
          if x1 = (4 : Int32) then
            some ((235 : Int32) + ((((4 : Int32) * (x2 - (6 : Int32))) + x0) - (1 : Int32)))
          else
            some (-1 : Int32)
        else
          if (6 : Int32) < x1 then
            some (-1 : Int32)
          else
            some ((163 : Int32) + (((((12 : Int32) * x2) + ((3 : Int32) * (x0 - (1 : Int32)))) + x1) - (4 : Int32)))
      else
        some (-1 : Int32)

set_option maxHeartbeats 4000000 in
set_option maxRecDepth 100000 in
theorem kX1_addThenCopy (l : Launch) (D : va_G) (x0 : Int32) (x1 : Int32) (x2 : Int32) {R : Int32} (hf : fX1_addThenCopy x0 x1 x2 = some R) : MI l yX1_addThenCopy wsX1_addThenCopy (rmD 0) D ([.int x0, .int x1, .int x2] : List Value) ([] : va_W) [] NT R ([] : va_W) := by
  refine MI.mk (cc := cX1_addThenCopy) (maxL := 4) (ret := (some .int)) (by first | decide | decide +kernel) rfl (Nat.le_of_ble_eq_true rfl) ?_
  intro p e s m below meth cd A ls hE
  obtain ⟨hx, hb, hr, hml, hts, hown, hlocks, hP, hK, hD, hA, hN, hAe, hl⟩ := hE
  have hown : s.vm.findClass RX1 = some m.cls := hown
  have hS : va_S A s.heap s.heap [] := va_S.rf
  have hl : lv_has ls 4 [(0, .int x0), (1, .int x1), (2, .int x2)] := hl
  rw [fX1_addThenCopy] at hf
  refine lv_iload_n hx hb dX1_addThenCopy_0 rfl (lv_at hl 0 rfl) ?_
  refine lv_iconst (v := (1 : Int32)) hx hb dX1_addThenCopy_1 (by decide) ?_
  refine lv_icmp_lt (tgt := 15) hx hb dX1_addThenCopy_2 (by decide) (fun c1 => ?_) (fun c1 => ?_)
  · rw [if_pos c1] at hf
    refine lv_iconst (v := (-1 : Int32)) hx hb dX1_addThenCopy_15 (by decide) ?_
    obtain rfl := Option.some.inj hf
    exact k_retI hx hb hr hlocks hP hS dX1_addThenCopy_16
  · rw [if_neg c1] at hf
    refine lv_iload_n hx hb dX1_addThenCopy_5 rfl (lv_at hl 0 rfl) ?_
    refine lv_iconst (v := (4 : Int32)) hx hb dX1_addThenCopy_6 (by decide) ?_
    refine lv_icmp_gt (tgt := 15) hx hb dX1_addThenCopy_7 (by decide) (fun c2 => ?_) (fun c2 => ?_)
    · rw [if_pos c2] at hf
      refine lv_iconst (v := (-1 : Int32)) hx hb dX1_addThenCopy_15 (by decide) ?_
      obtain rfl := Option.some.inj hf
      exact k_retI hx hb hr hlocks hP hS dX1_addThenCopy_16
    · rw [if_neg c2] at hf
      refine lv_iload_n hx hb dX1_addThenCopy_10 rfl (lv_at hl 1 rfl) ?_
      refine lv_iconst (v := (4 : Int32)) hx hb dX1_addThenCopy_11 (by decide) ?_
      refine lv_icmp_ge (tgt := 17) hx hb dX1_addThenCopy_12 (by decide) (fun c3 => ?_) (fun c3 => ?_)
      · rw [if_pos c3] at hf
        refine lv_iload_n hx hb dX1_addThenCopy_17 rfl (lv_at hl 2 rfl) ?_
        refine lv_bipush (v := (6 : Int32)) hx hb dX1_addThenCopy_18 (by decide) ?_
        refine lv_icmp_ge (tgt := 54) hx hb dX1_addThenCopy_20 (by decide) (fun c4 => ?_) (fun c4 => ?_)
        · rw [if_pos c4] at hf
          refine lv_iconst (v := (4 : Int32)) hx hb dX1_addThenCopy_54 (by decide) ?_
          refine lv_iload_n hx hb dX1_addThenCopy_55 rfl (lv_at hl 2 rfl) ?_
          refine lv_bipush (v := (6 : Int32)) hx hb dX1_addThenCopy_56 (by decide) ?_
          refine lv_isub hx hb dX1_addThenCopy_58 ?_
          refine lv_imul hx hb dX1_addThenCopy_59 ?_
          refine lv_iload_n hx hb dX1_addThenCopy_60 rfl (lv_at hl 0 rfl) ?_
          refine lv_iadd hx hb dX1_addThenCopy_61 ?_
          refine lv_iconst (v := (1 : Int32)) hx hb dX1_addThenCopy_62 (by decide) ?_
          refine lv_isub hx hb dX1_addThenCopy_63 ?_
          refine lv_istore_n (lv' := [(3, .int ((((4 : Int32) * (x2 - (6 : Int32))) + x0) - (1 : Int32))), (0, .int x0), (1, .int x1), (2, .int x2)]) hx hb dX1_addThenCopy_64 rfl hl (by decide) rfl (fun ls hl => ?_)
          refine lv_iload_n hx hb dX1_addThenCopy_65 rfl (lv_at hl 2 rfl) ?_
          refine lv_iconst (v := (4 : Int32)) hx hb dX1_addThenCopy_66 (by decide) ?_
          refine lv_icmp_ne (tgt := 78) hx hb dX1_addThenCopy_67 (by decide) (fun c5 => ?_) (fun c5 => ?_)
          · rw [if_neg c5] at hf
            refine lv_iconst (v := (-1 : Int32)) hx hb dX1_addThenCopy_78 (by decide) ?_
            obtain rfl := Option.some.inj hf
            exact k_retI hx hb hr hlocks hP hS dX1_addThenCopy_79
          · rw [if_pos c5] at hf
            refine lv_sipush (v := (235 : Int32)) hx hb dX1_addThenCopy_70 (by decide) ?_
            refine lv_iload_n hx hb dX1_addThenCopy_73 rfl (lv_at hl 0 rfl) ?_
            refine lv_iadd hx hb dX1_addThenCopy_74 ?_
            refine lv_goto (tgt := 79) hx hb dX1_addThenCopy_75 (by decide) ?_
            obtain rfl := Option.some.inj hf
            exact k_retI hx hb hr hlocks hP hS dX1_addThenCopy_79
        · rw [if_neg c4] at hf
          refine lv_bipush (v := (12 : Int32)) hx hb dX1_addThenCopy_23 (by decide) ?_
          refine lv_iload_n hx hb dX1_addThenCopy_25 rfl (lv_at hl 2 rfl) ?_
          refine lv_imul hx hb dX1_addThenCopy_26 ?_
          refine lv_iconst (v := (3 : Int32)) hx hb dX1_addThenCopy_27 (by decide) ?_
          refine lv_iload_n hx hb dX1_addThenCopy_28 rfl (lv_at hl 0 rfl) ?_
          refine lv_iconst (v := (1 : Int32)) hx hb dX1_addThenCopy_29 (by decide) ?_
          refine lv_isub hx hb dX1_addThenCopy_30 ?_
          refine lv_imul hx hb dX1_addThenCopy_31 ?_
          refine lv_iadd hx hb dX1_addThenCopy_32 ?_
          refine lv_iload_n hx hb dX1_addThenCopy_33 rfl (lv_at hl 1 rfl) ?_
          refine lv_iadd hx hb dX1_addThenCopy_34 ?_
          refine lv_iconst (v := (4 : Int32)) hx hb dX1_addThenCopy_35 (by decide) ?_
          refine lv_isub hx hb dX1_addThenCopy_36 ?_
          refine lv_istore_n (lv' := [(3, .int (((((12 : Int32) * x2) + ((3 : Int32) * (x0 - (1 : Int32)))) + x1) - (4 : Int32))), (0, .int x0), (1, .int x1), (2, .int x2)]) hx hb dX1_addThenCopy_37 rfl hl (by decide) rfl (fun ls hl => ?_)
          refine lv_iload_n hx hb dX1_addThenCopy_38 rfl (lv_at hl 2 rfl) ?_
          refine lv_bipush (v := (6 : Int32)) hx hb dX1_addThenCopy_39 (by decide) ?_
          refine lv_icmp_gt (tgt := 52) hx hb dX1_addThenCopy_41 (by decide) (fun c6 => ?_) (fun c6 => ?_)
          · rw [if_pos c6] at hf
            refine lv_iconst (v := (-1 : Int32)) hx hb dX1_addThenCopy_52 (by decide) ?_
            obtain rfl := Option.some.inj hf
            exact k_retI hx hb hr hlocks hP hS dX1_addThenCopy_53
          · rw [if_neg c6] at hf
            refine lv_sipush (v := (163 : Int32)) hx hb dX1_addThenCopy_44 (by decide) ?_
            refine lv_iload_n hx hb dX1_addThenCopy_47 rfl (lv_at hl 0 rfl) ?_
            refine lv_iadd hx hb dX1_addThenCopy_48 ?_
            refine lv_goto (tgt := 53) hx hb dX1_addThenCopy_49 (by decide) ?_
            obtain rfl := Option.some.inj hf
            exact k_retI hx hb hr hlocks hP hS dX1_addThenCopy_53
      · rw [if_neg c3] at hf
        refine lv_iconst (v := (-1 : Int32)) hx hb dX1_addThenCopy_15 (by decide) ?_
        obtain rfl := Option.some.inj hf
        exact k_retI hx hb hr hlocks hP hS dX1_addThenCopy_16

noncomputable def fX1_copyThenAdd (x0 : Int32) (x1 : Int32) (x2 : Int32) : Option (Int32) :=
  if x0 = (4 : Int32) then
    if x2 = (1 : Int32) then
      some ((247 : Int32) + x1)
    else
      some (-1 : Int32)
  else
    some (-1 : Int32)

set_option maxHeartbeats 4000000 in
set_option maxRecDepth 100000 in
theorem kX1_copyThenAdd (l : Launch) (D : va_G) (x0 : Int32) (x1 : Int32) (x2 : Int32) {R : Int32} (hf : fX1_copyThenAdd x0 x1 x2 = some R) : MI l yX1_copyThenAdd wsX1_copyThenAdd (rmD 0) D ([.int x0, .int x1, .int x2] : List Value) ([] : va_W) [] NT R ([] : va_W) := by
  refine MI.mk (cc := cX1_copyThenAdd) (maxL := 3) (ret := (some .int)) (by first | decide | decide +kernel) rfl (Nat.le_of_ble_eq_true rfl) ?_
  intro p e s m below meth cd A ls hE
  obtain ⟨hx, hb, hr, hml, hts, hown, hlocks, hP, hK, hD, hA, hN, hAe, hl⟩ := hE
  have hown : s.vm.findClass RX1 = some m.cls := hown
  have hS : va_S A s.heap s.heap [] := va_S.rf
  have hl : lv_has ls 3 [(0, .int x0), (1, .int x1), (2, .int x2)] := hl
  rw [fX1_copyThenAdd] at hf
  refine lv_iload_n hx hb dX1_copyThenAdd_0 rfl (lv_at hl 0 rfl) ?_
  refine lv_iconst (v := (4 : Int32)) hx hb dX1_copyThenAdd_1 (by decide) ?_
  refine lv_icmp_ne (tgt := 18) hx hb dX1_copyThenAdd_2 (by decide) (fun c1 => ?_) (fun c1 => ?_)
  · rw [if_neg c1] at hf
    refine lv_iconst (v := (-1 : Int32)) hx hb dX1_copyThenAdd_18 (by decide) ?_
    obtain rfl := Option.some.inj hf
    exact k_retI hx hb hr hlocks hP hS dX1_copyThenAdd_19
  · rw [if_pos c1] at hf
    refine lv_iload_n hx hb dX1_copyThenAdd_5 rfl (lv_at hl 2 rfl) ?_
    refine lv_iconst (v := (1 : Int32)) hx hb dX1_copyThenAdd_6 (by decide) ?_
    refine lv_icmp_ne (tgt := 18) hx hb dX1_copyThenAdd_7 (by decide) (fun c2 => ?_) (fun c2 => ?_)
    · rw [if_neg c2] at hf
      refine lv_iconst (v := (-1 : Int32)) hx hb dX1_copyThenAdd_18 (by decide) ?_
      obtain rfl := Option.some.inj hf
      exact k_retI hx hb hr hlocks hP hS dX1_copyThenAdd_19
    · rw [if_pos c2] at hf
      refine lv_sipush (v := (247 : Int32)) hx hb dX1_copyThenAdd_10 (by decide) ?_
      refine lv_iload_n hx hb dX1_copyThenAdd_13 rfl (lv_at hl 1 rfl) ?_
      refine lv_iadd hx hb dX1_copyThenAdd_14 ?_
      refine lv_goto (tgt := 19) hx hb dX1_copyThenAdd_15 (by decide) ?_
      obtain rfl := Option.some.inj hf
      exact k_retI hx hb hr hlocks hP hS dX1_copyThenAdd_19
end
section
noncomputable def fX4_count (fk : Nat → Int32) (fz : Nat → Int32) (fm : Nat → Int32) (ct : Int32) : Option (Int32) :=
  some ct

set_option maxHeartbeats 4000000 in
set_option maxRecDepth 100000 in
theorem kX4_count (l : Launch) (D : va_G) (h : Nat) (ak : Nat) (az : Nat) (am : Nat) (cK : ClassId) (cZ : ClassId) (cM : ClassId) (fk : Nat → Int32) (fz : Nat → Int32) (fm : Nat → Int32) (ct : Int32) {R : Int32} (hf : fX4_count fk fz fm ct = some R) : MI l yX4_count wsX4_count (rmD 0) D ([.ref h] : List Value) (wI h ak az am cK cZ cM fk fz fm ct) [(cK, .int), (cZ, .int), (cM, .int)] NT R (wI h ak az am cK cZ cM fk fz fm ct) := by
  refine MI.mk (cc := cX4_count) (maxL := 1) (ret := (some .int)) (by first | decide | decide +kernel) rfl (Nat.le_of_ble_eq_true rfl) ?_
  intro p e s m below meth cd A ls hE
  obtain ⟨hx, hb, hr, hml, hts, hown, hlocks, hP, hK, hD, hA, hN, hAe, hl⟩ := hE
  have hown : s.vm.findClass RX4 = some m.cls := hown
  have hS : va_S A s.heap s.heap [] := va_S.rf
  have hl : lv_has ls 1 [(0, .ref h)] := hl
  rw [fX4_count] at hf
  refine lv_aload_n hx hb dX4_count_0 rfl (lv_at hl 0 rfl) ?_
  refine va_get (D := D) (ci := 3) (v := .int ct) (C := RX4) (T := TX4) (N := 4) hx hb hts (fun w h => List.mem_cons_of_mem _ (List.mem_append_right _ h)) hown hK hP 0 rfl rfl 3 (by decide) (hts (.fieldLink RX4 21 "DeltaWindows$Instructions" "count" "I") (List.mem_of_getElem? (i := 1) rfl)) (fun _ h9 => h9) rfl dX4_count_1 ?_
  obtain rfl := Option.some.inj hf
  exact k_retI hx hb hr hlocks hP hS dX4_count_4

noncomputable def fX4_clear (fk : Nat → Int32) (fz : Nat → Int32) (fm : Nat → Int32) (ct : Int32) : Option (Int32) :=
  some (0 : Int32)

set_option maxHeartbeats 4000000 in
set_option maxRecDepth 100000 in
theorem kX4_clear (l : Launch) (D : va_G) (h : Nat) (ak : Nat) (az : Nat) (am : Nat) (cK : ClassId) (cZ : ClassId) (cM : ClassId) (fk : Nat → Int32) (fz : Nat → Int32) (fm : Nat → Int32) (ct : Int32) {R : Int32} (hf : fX4_clear fk fz fm ct = some R) : MV l yX4_clear wsX4_clear (rmD 0) D ([.ref h] : List Value) (wI h ak az am cK cZ cM fk fz fm ct) [(cK, .int), (cZ, .int), (cM, .int)] NT (wI h ak az am cK cZ cM fk fz fm R) := by
  refine MV.mk (cc := cX4_clear) (maxL := 1) (ret := none) (by first | decide | decide +kernel) rfl (Nat.le_of_ble_eq_true rfl) ?_
  intro p e s m below meth cd A ls hE
  obtain ⟨hx, hb, hr, hml, hts, hown, hlocks, hP, hK, hD, hA, hN, hAe, hl⟩ := hE
  have hown : s.vm.findClass RX4 = some m.cls := hown
  have hS : va_S A s.heap s.heap [] := va_S.rf
  have hl : lv_has ls 1 [(0, .ref h)] := hl
  rw [fX4_clear] at hf
  refine lv_aload_n hx hb dX4_clear_0 rfl (lv_at hl 0 rfl) ?_
  refine lv_iconst (v := (0 : Int32)) hx hb dX4_clear_1 (by decide) ?_
  refine va_put (D := D) (ci := 3) (v := .int (0 : Int32)) (ty := .int) (C := RX4) (T := TX4) (N := 4) hx hb hts (fun w h => List.mem_cons_of_mem _ (List.mem_append_right _ h)) tyX4 tyX4_ok nmX4 hown hK hP hD hS 0 rfl rfl 3 (by decide) (hts (.fieldLink RX4 21 "DeltaWindows$Instructions" "count" "I") (List.mem_of_getElem? (i := 1) rfl)) (fun _ h9 => h9) rfl (by decide +kernel) rfl rfl (Nat.le_of_ble_eq_true rfl) dX4_clear_2 (fun H locs hP hD hS => ?_)
  have hP : va_P D vwCl (wI h ak az am cK cZ cM fk fz fm (0 : Int32)) H := hP
  have hD : va_D A (wI h ak az am cK cZ cM fk fz fm (0 : Int32)) := hD
  obtain rfl := Option.some.inj hf
  exact k_retV hx hb hr hlocks hP hS dX4_clear_5

noncomputable def fX4_append (fk : Nat → Int32) (fz : Nat → Int32) (fm : Nat → Int32) (ct : Int32) (x1 : Int32) (x2 : Int32) (x3 : Int32) : Option ((Nat → Int32) × (Nat → Int32) × (Nat → Int32) × Int32) :=
  if (64 : Int32) ≤ ct then
    some (fk, fz, fm, ct)
  else
    if inb ct 64 = true then
    if inb ct 64 = true then
    if inb ct 64 = true then
    some ((upd fk ct.toNatClampNeg x1), (upd fz ct.toNatClampNeg x2), (upd fm ct.toNatClampNeg x3), (ct + (1 : Int32)))
    else none
    else none
    else none

set_option maxHeartbeats 4000000 in
set_option maxRecDepth 100000 in
theorem kX4_append (l : Launch) (D : va_G) (h : Nat) (ak : Nat) (az : Nat) (am : Nat) (cK : ClassId) (cZ : ClassId) (cM : ClassId) (fk : Nat → Int32) (fz : Nat → Int32) (fm : Nat → Int32) (ct : Int32) (x1 : Int32) (x2 : Int32) (x3 : Int32) {R : (Nat → Int32) × (Nat → Int32) × (Nat → Int32) × Int32} (hf : fX4_append fk fz fm ct x1 x2 x3 = some R) : MV l yX4_append wsX4_append (rmD 0) D ([.ref h, .int x1, .int x2, .int x3] : List Value) (wI h ak az am cK cZ cM fk fz fm ct) [(cK, .int), (cZ, .int), (cM, .int)] NT (wI h ak az am cK cZ cM R.1 R.2.1 R.2.2.1 R.2.2.2) := by
  refine MV.mk (cc := cX4_append) (maxL := 4) (ret := none) (by first | decide | decide +kernel) rfl (Nat.le_of_ble_eq_true rfl) ?_
  intro p e s m below meth cd A ls hE
  obtain ⟨hx, hb, hr, hml, hts, hown, hlocks, hP, hK, hD, hA, hN, hAe, hl⟩ := hE
  have hown : s.vm.findClass RX4 = some m.cls := hown
  have hS : va_S A s.heap s.heap [] := va_S.rf
  have hl : lv_has ls 4 [(0, .ref h), (1, .int x1), (2, .int x2), (3, .int x3)] := hl
  rw [fX4_append] at hf
  refine lv_aload_n hx hb dX4_append_0 rfl (lv_at hl 0 rfl) ?_
  refine va_get (D := D) (ci := 3) (v := .int ct) (C := RX4) (T := TX4) (N := 4) hx hb hts (fun w h => List.mem_cons_of_mem _ (List.mem_append_right _ h)) hown hK hP 0 rfl rfl 3 (by decide) (hts (.fieldLink RX4 21 "DeltaWindows$Instructions" "count" "I") (List.mem_of_getElem? (i := 1) rfl)) (fun _ h9 => h9) rfl dX4_append_1 ?_
  refine lv_bipush (v := (64 : Int32)) hx hb dX4_append_4 (by decide) ?_
  refine lv_icmp_ge (tgt := 49) hx hb dX4_append_6 (by decide) (fun c1 => ?_) (fun c1 => ?_)
  · rw [if_pos c1] at hf
    obtain rfl := Option.some.inj hf
    exact k_retV hx hb hr hlocks hP hS dX4_append_49
  · rw [if_neg c1] at hf
    refine lv_aload_n hx hb dX4_append_9 rfl (lv_at hl 0 rfl) ?_
    refine va_get (D := D) (ci := 3) (v := .ref ak) (C := RX4) (T := TX4) (N := 4) hx hb hts (fun w h => List.mem_cons_of_mem _ (List.mem_append_right _ h)) hown hK hP 0 rfl rfl 0 (by decide) (hts (.fieldLink RX4 9 "DeltaWindows$Instructions" "kinds" "[I") (List.mem_of_getElem? (i := 2) rfl)) (fun _ h9 => h9) rfl dX4_append_10 ?_
    refine lv_aload_n hx hb dX4_append_13 rfl (lv_at hl 0 rfl) ?_
    refine va_get (D := D) (ci := 3) (v := .int ct) (C := RX4) (T := TX4) (N := 4) hx hb hts (fun w h => List.mem_cons_of_mem _ (List.mem_append_right _ h)) hown hK hP 0 rfl rfl 3 (by decide) (hts (.fieldLink RX4 21 "DeltaWindows$Instructions" "count" "I") (List.mem_of_getElem? (i := 1) rfl)) (fun _ h9 => h9) rfl dX4_append_14 ?_
    refine lv_iload_n hx hb dX4_append_17 rfl (lv_at hl 1 rfl) ?_
    obtain ⟨g2, hf⟩ := g_inv hf
    refine va_iast hx hb hK hP hD hS 1 0 rfl rfl (inb_vp g2) dX4_append_18 (fun H locs hP hD hS => ?_)
    have hP : va_P D vwCl (wI h ak az am cK cZ cM (upd fk ct.toNatClampNeg x1) fz fm ct) H := hP
    have hD : va_D A (wI h ak az am cK cZ cM (upd fk ct.toNatClampNeg x1) fz fm ct) := hD
    refine lv_aload_n hx hb dX4_append_19 rfl (lv_at hl 0 rfl) ?_
    refine va_get (D := D) (ci := 3) (v := .ref az) (C := RX4) (T := TX4) (N := 4) hx hb hts (fun w h => List.mem_cons_of_mem _ (List.mem_append_right _ h)) hown hK hP 0 rfl rfl 1 (by decide) (hts (.fieldLink RX4 15 "DeltaWindows$Instructions" "sizes" "[I") (List.mem_of_getElem? (i := 3) rfl)) (fun _ h9 => h9) rfl dX4_append_20 ?_
    refine lv_aload_n hx hb dX4_append_23 rfl (lv_at hl 0 rfl) ?_
    refine va_get (D := D) (ci := 3) (v := .int ct) (C := RX4) (T := TX4) (N := 4) hx hb hts (fun w h => List.mem_cons_of_mem _ (List.mem_append_right _ h)) hown hK hP 0 rfl rfl 3 (by decide) (hts (.fieldLink RX4 21 "DeltaWindows$Instructions" "count" "I") (List.mem_of_getElem? (i := 1) rfl)) (fun _ h9 => h9) rfl dX4_append_24 ?_
    refine lv_iload_n hx hb dX4_append_27 rfl (lv_at hl 2 rfl) ?_
    obtain ⟨g3, hf⟩ := g_inv hf
    refine va_iast hx hb hK hP hD hS 2 1 rfl rfl (inb_vp g3) dX4_append_28 (fun H locs hP hD hS => ?_)
    have hP : va_P D vwCl (wI h ak az am cK cZ cM (upd fk ct.toNatClampNeg x1) (upd fz ct.toNatClampNeg x2) fm ct) H := hP
    have hD : va_D A (wI h ak az am cK cZ cM (upd fk ct.toNatClampNeg x1) (upd fz ct.toNatClampNeg x2) fm ct) := hD
    refine lv_aload_n hx hb dX4_append_29 rfl (lv_at hl 0 rfl) ?_
    refine va_get (D := D) (ci := 3) (v := .ref am) (C := RX4) (T := TX4) (N := 4) hx hb hts (fun w h => List.mem_cons_of_mem _ (List.mem_append_right _ h)) hown hK hP 0 rfl rfl 2 (by decide) (hts (.fieldLink RX4 18 "DeltaWindows$Instructions" "modes" "[I") (List.mem_of_getElem? (i := 4) rfl)) (fun _ h9 => h9) rfl dX4_append_30 ?_
    refine lv_aload_n hx hb dX4_append_33 rfl (lv_at hl 0 rfl) ?_
    refine va_get (D := D) (ci := 3) (v := .int ct) (C := RX4) (T := TX4) (N := 4) hx hb hts (fun w h => List.mem_cons_of_mem _ (List.mem_append_right _ h)) hown hK hP 0 rfl rfl 3 (by decide) (hts (.fieldLink RX4 21 "DeltaWindows$Instructions" "count" "I") (List.mem_of_getElem? (i := 1) rfl)) (fun _ h9 => h9) rfl dX4_append_34 ?_
    refine lv_iload_n hx hb dX4_append_37 rfl (lv_at hl 3 rfl) ?_
    obtain ⟨g4, hf⟩ := g_inv hf
    refine va_iast hx hb hK hP hD hS 3 2 rfl rfl (inb_vp g4) dX4_append_38 (fun H locs hP hD hS => ?_)
    have hP : va_P D vwCl (wI h ak az am cK cZ cM (upd fk ct.toNatClampNeg x1) (upd fz ct.toNatClampNeg x2) (upd fm ct.toNatClampNeg x3) ct) H := hP
    have hD : va_D A (wI h ak az am cK cZ cM (upd fk ct.toNatClampNeg x1) (upd fz ct.toNatClampNeg x2) (upd fm ct.toNatClampNeg x3) ct) := hD
    refine lv_aload_n hx hb dX4_append_39 rfl (lv_at hl 0 rfl) ?_
    refine lv_dup hx hb dX4_append_40 rfl ?_
    refine va_get (D := D) (ci := 3) (v := .int ct) (C := RX4) (T := TX4) (N := 4) hx hb hts (fun w h => List.mem_cons_of_mem _ (List.mem_append_right _ h)) hown hK hP 0 rfl rfl 3 (by decide) (hts (.fieldLink RX4 21 "DeltaWindows$Instructions" "count" "I") (List.mem_of_getElem? (i := 1) rfl)) (fun _ h9 => h9) rfl dX4_append_41 ?_
    refine lv_iconst (v := (1 : Int32)) hx hb dX4_append_44 (by decide) ?_
    refine lv_iadd hx hb dX4_append_45 ?_
    refine va_put (D := D) (ci := 3) (v := .int (ct + (1 : Int32))) (ty := .int) (C := RX4) (T := TX4) (N := 4) hx hb hts (fun w h => List.mem_cons_of_mem _ (List.mem_append_right _ h)) tyX4 tyX4_ok nmX4 hown hK hP hD hS 0 rfl rfl 3 (by decide) (hts (.fieldLink RX4 21 "DeltaWindows$Instructions" "count" "I") (List.mem_of_getElem? (i := 1) rfl)) (fun _ h9 => h9) rfl (by decide +kernel) rfl rfl (Nat.le_of_ble_eq_true rfl) dX4_append_46 (fun H locs hP hD hS => ?_)
    have hP : va_P D vwCl (wI h ak az am cK cZ cM (upd fk ct.toNatClampNeg x1) (upd fz ct.toNatClampNeg x2) (upd fm ct.toNatClampNeg x3) (ct + (1 : Int32))) H := hP
    have hD : va_D A (wI h ak az am cK cZ cM (upd fk ct.toNatClampNeg x1) (upd fz ct.toNatClampNeg x2) (upd fm ct.toNatClampNeg x3) (ct + (1 : Int32))) := hD
    obtain rfl := Option.some.inj hf
    exact k_retV hx hb hr hlocks hP hS dX4_append_49

noncomputable def fX4_appendAddedByte (fk : Nat → Int32) (fz : Nat → Int32) (fm : Nat → Int32) (ct : Int32) : Option ((Nat → Int32) × (Nat → Int32) × (Nat → Int32) × Int32) :=
  if (ct - (1 : Int32)) < 0 then
    (fX4_append fk fz fm ct (1 : Int32) (1 : Int32) (0 : Int32)).bind fun R2 =>
    some (R2.1, R2.2.1, R2.2.2.1, R2.2.2.2)
  else
    if inb (ct - (1 : Int32)) 64 = true then
    if (fk (ct - (1 : Int32)).toNatClampNeg) = (1 : Int32) then
      if inb (ct - (1 : Int32)) 64 = true then
      if inb (ct - (1 : Int32)) 64 = true then
      some (fk, (upd fz (ct - (1 : Int32)).toNatClampNeg ((fz (ct - (1 : Int32)).toNatClampNeg) + (1 : Int32))), fm, ct)
      else none
      else none
    else
      (fX4_append fk fz fm ct (1 : Int32) (1 : Int32) (0 : Int32)).bind fun R6 =>
      some (R6.1, R6.2.1, R6.2.2.1, R6.2.2.2)
    else none

set_option maxHeartbeats 4000000 in
set_option maxRecDepth 100000 in
theorem kX4_appendAddedByte (l : Launch) (D : va_G) (h : Nat) (ak : Nat) (az : Nat) (am : Nat) (cK : ClassId) (cZ : ClassId) (cM : ClassId) (fk : Nat → Int32) (fz : Nat → Int32) (fm : Nat → Int32) (ct : Int32) {R : (Nat → Int32) × (Nat → Int32) × (Nat → Int32) × Int32} (hf : fX4_appendAddedByte fk fz fm ct = some R) : MV l yX4_appendAddedByte wsX4_appendAddedByte (rmD 1) D ([.ref h] : List Value) (wI h ak az am cK cZ cM fk fz fm ct) [(cK, .int), (cZ, .int), (cM, .int)] NT (wI h ak az am cK cZ cM R.1 R.2.1 R.2.2.1 R.2.2.2) := by
  refine MV.mk (cc := cX4_appendAddedByte) (maxL := 2) (ret := none) (by first | decide | decide +kernel) rfl (Nat.le_of_ble_eq_true rfl) ?_
  intro p e s m below meth cd A ls hE
  obtain ⟨hx, hb, hr, hml, hts, hown, hlocks, hP, hK, hD, hA, hN, hAe, hl⟩ := hE
  have hown : s.vm.findClass RX4 = some m.cls := hown
  have hS : va_S A s.heap s.heap [] := va_S.rf
  have hl : lv_has ls 2 [(0, .ref h)] := hl
  rw [fX4_appendAddedByte] at hf
  refine lv_aload_n hx hb dX4_appendAddedByte_0 rfl (lv_at hl 0 rfl) ?_
  refine va_get (D := D) (ci := 3) (v := .int ct) (C := RX4) (T := TX4) (N := 4) hx hb hts (fun w h => List.mem_cons_of_mem _ (List.mem_append_right _ h)) hown hK hP 0 rfl rfl 3 (by decide) (hts (.fieldLink RX4 21 "DeltaWindows$Instructions" "count" "I") (List.mem_of_getElem? (i := 1) rfl)) (fun _ h9 => h9) rfl dX4_appendAddedByte_1 ?_
  refine lv_iconst (v := (1 : Int32)) hx hb dX4_appendAddedByte_4 (by decide) ?_
  refine lv_isub hx hb dX4_appendAddedByte_5 ?_
  refine lv_istore_n (lv' := [(1, .int (ct - (1 : Int32))), (0, .ref h)]) hx hb dX4_appendAddedByte_6 rfl hl (by decide) rfl (fun ls hl => ?_)
  refine lv_iload_n hx hb dX4_appendAddedByte_7 rfl (lv_at hl 0 rfl) ?_
  refine lv_if_lt (tgt := 34) hx hb dX4_appendAddedByte_8 (by decide) (fun c1 => ?_) (fun c1 => ?_)
  · rw [if_pos c1] at hf
    refine lv_aload_n hx hb dX4_appendAddedByte_34 rfl (lv_at hl 1 rfl) ?_
    refine lv_iconst (v := (1 : Int32)) hx hb dX4_appendAddedByte_35 (by decide) ?_
    refine lv_iconst (v := (1 : Int32)) hx hb dX4_appendAddedByte_36 (by decide) ?_
    refine lv_iconst (v := (0 : Int32)) hx hb dX4_appendAddedByte_37 (by decide) ?_
    obtain ⟨R2, hc3, hf⟩ := b_inv hf
    have hk := kall (wc' := (wI h ak az am cK cZ cM R2.1 R2.2.1 R2.2.2.1 R2.2.2.2)) hP hD hS hA rfl
    refine k_goV (va_runV (As := [.int (1 : Int32), .int (1 : Int32), .int (0 : Int32)]) (rest := []) ⟨hx, hb, hml, hown, hts⟩ (kX4_append l D h ak az am cK cZ cM fk fz fm ct (1 : Int32) (1 : Int32) (0 : Int32) hc3 _) (cwV 3 hts gX4_appendAddedByte_X4_append rfl rfl rfl (by decide +kernel) ⟨Nat.le_of_ble_eq_true rfl, Nat.le_of_ble_eq_true rfl⟩) (k_preV (q0 := 0) (ci := 3) hk hK NT_bl NT_u rfl rfl rfl) rfl rfl hl.1 rfl (lv_room (Nat.le_of_ble_eq_true rfl)) dX4_appendAddedByte_38 ⟨Nat.zero_le _, Nat.zero_le _⟩) hk hS (fun H locs hP hD hS => ?_)
    obtain rfl := Option.some.inj hf
    exact k_retV hx hb hr hlocks hP hS dX4_appendAddedByte_41
  · rw [if_neg c1] at hf
    refine lv_aload_n hx hb dX4_appendAddedByte_11 rfl (lv_at hl 1 rfl) ?_
    refine va_get (D := D) (ci := 3) (v := .ref ak) (C := RX4) (T := TX4) (N := 4) hx hb hts (fun w h => List.mem_cons_of_mem _ (List.mem_append_right _ h)) hown hK hP 0 rfl rfl 0 (by decide) (hts (.fieldLink RX4 9 "DeltaWindows$Instructions" "kinds" "[I") (List.mem_of_getElem? (i := 2) rfl)) (fun _ h9 => h9) rfl dX4_appendAddedByte_12 ?_
    refine lv_iload_n hx hb dX4_appendAddedByte_15 rfl (lv_at hl 0 rfl) ?_
    obtain ⟨g4, hf⟩ := g_inv hf
    refine va_iald hx hb hK hP 1 0 rfl rfl (inb_vp g4) dX4_appendAddedByte_16 ?_
    refine lv_iconst (v := (1 : Int32)) hx hb dX4_appendAddedByte_17 (by decide) ?_
    refine lv_icmp_ne (tgt := 34) hx hb dX4_appendAddedByte_18 (by decide) (fun c5 => ?_) (fun c5 => ?_)
    · rw [if_neg c5] at hf
      refine lv_aload_n hx hb dX4_appendAddedByte_34 rfl (lv_at hl 1 rfl) ?_
      refine lv_iconst (v := (1 : Int32)) hx hb dX4_appendAddedByte_35 (by decide) ?_
      refine lv_iconst (v := (1 : Int32)) hx hb dX4_appendAddedByte_36 (by decide) ?_
      refine lv_iconst (v := (0 : Int32)) hx hb dX4_appendAddedByte_37 (by decide) ?_
      obtain ⟨R6, hc7, hf⟩ := b_inv hf
      have hk := kall (wc' := (wI h ak az am cK cZ cM R6.1 R6.2.1 R6.2.2.1 R6.2.2.2)) hP hD hS hA rfl
      refine k_goV (va_runV (As := [.int (1 : Int32), .int (1 : Int32), .int (0 : Int32)]) (rest := []) ⟨hx, hb, hml, hown, hts⟩ (kX4_append l D h ak az am cK cZ cM fk fz fm ct (1 : Int32) (1 : Int32) (0 : Int32) hc7 _) (cwV 3 hts gX4_appendAddedByte_X4_append rfl rfl rfl (by decide +kernel) ⟨Nat.le_of_ble_eq_true rfl, Nat.le_of_ble_eq_true rfl⟩) (k_preV (q0 := 0) (ci := 3) hk hK NT_bl NT_u rfl rfl rfl) rfl rfl hl.1 rfl (lv_room (Nat.le_of_ble_eq_true rfl)) dX4_appendAddedByte_38 ⟨Nat.zero_le _, Nat.zero_le _⟩) hk hS (fun H locs hP hD hS => ?_)
      obtain rfl := Option.some.inj hf
      exact k_retV hx hb hr hlocks hP hS dX4_appendAddedByte_41
    · rw [if_pos c5] at hf
      refine lv_aload_n hx hb dX4_appendAddedByte_21 rfl (lv_at hl 1 rfl) ?_
      refine va_get (D := D) (ci := 3) (v := .ref az) (C := RX4) (T := TX4) (N := 4) hx hb hts (fun w h => List.mem_cons_of_mem _ (List.mem_append_right _ h)) hown hK hP 0 rfl rfl 1 (by decide) (hts (.fieldLink RX4 15 "DeltaWindows$Instructions" "sizes" "[I") (List.mem_of_getElem? (i := 3) rfl)) (fun _ h9 => h9) rfl dX4_appendAddedByte_22 ?_
      refine lv_iload_n hx hb dX4_appendAddedByte_25 rfl (lv_at hl 0 rfl) ?_
      refine lv_dup2_11 hx hb dX4_appendAddedByte_26 rfl rfl ?_
      obtain ⟨g8, hf⟩ := g_inv hf
      refine va_iald hx hb hK hP 2 1 rfl rfl (inb_vp g8) dX4_appendAddedByte_27 ?_
      refine lv_iconst (v := (1 : Int32)) hx hb dX4_appendAddedByte_28 (by decide) ?_
      refine lv_iadd hx hb dX4_appendAddedByte_29 ?_
      obtain ⟨g9, hf⟩ := g_inv hf
      refine va_iast hx hb hK hP hD hS 2 1 rfl rfl (inb_vp g9) dX4_appendAddedByte_30 (fun H locs hP hD hS => ?_)
      have hP : va_P D vwCl (wI h ak az am cK cZ cM fk (upd fz (ct - (1 : Int32)).toNatClampNeg ((fz (ct - (1 : Int32)).toNatClampNeg) + (1 : Int32))) fm ct) H := hP
      have hD : va_D A (wI h ak az am cK cZ cM fk (upd fz (ct - (1 : Int32)).toNatClampNeg ((fz (ct - (1 : Int32)).toNatClampNeg) + (1 : Int32))) fm ct) := hD
      refine lv_goto (tgt := 41) hx hb dX4_appendAddedByte_31 (by decide) ?_
      obtain rfl := Option.some.inj hf
      exact k_retV hx hb hr hlocks hP hS dX4_appendAddedByte_41

noncomputable def fX4_sizeOf (fk : Nat → Int32) (fz : Nat → Int32) (fm : Nat → Int32) (ct : Int32) (x1 : Int32) : Option (Int32) :=
  if x1 < 0 then
    some (0 : Int32)
  else
    if ct ≤ x1 then
      some (0 : Int32)
    else
      if inb x1 64 = true then
      some (fz x1.toNatClampNeg)
      else none

set_option maxHeartbeats 4000000 in
set_option maxRecDepth 100000 in
theorem kX4_sizeOf (l : Launch) (D : va_G) (h : Nat) (ak : Nat) (az : Nat) (am : Nat) (cK : ClassId) (cZ : ClassId) (cM : ClassId) (fk : Nat → Int32) (fz : Nat → Int32) (fm : Nat → Int32) (ct : Int32) (x1 : Int32) {R : Int32} (hf : fX4_sizeOf fk fz fm ct x1 = some R) : MI l yX4_sizeOf wsX4_sizeOf (rmD 0) D ([.ref h, .int x1] : List Value) (wI h ak az am cK cZ cM fk fz fm ct) [(cK, .int), (cZ, .int), (cM, .int)] NT R (wI h ak az am cK cZ cM fk fz fm ct) := by
  refine MI.mk (cc := cX4_sizeOf) (maxL := 2) (ret := (some .int)) (by first | decide | decide +kernel) rfl (Nat.le_of_ble_eq_true rfl) ?_
  intro p e s m below meth cd A ls hE
  obtain ⟨hx, hb, hr, hml, hts, hown, hlocks, hP, hK, hD, hA, hN, hAe, hl⟩ := hE
  have hown : s.vm.findClass RX4 = some m.cls := hown
  have hS : va_S A s.heap s.heap [] := va_S.rf
  have hl : lv_has ls 2 [(0, .ref h), (1, .int x1)] := hl
  rw [fX4_sizeOf] at hf
  refine lv_iload_n hx hb dX4_sizeOf_0 rfl (lv_at hl 1 rfl) ?_
  refine lv_if_lt (tgt := 21) hx hb dX4_sizeOf_1 (by decide) (fun c1 => ?_) (fun c1 => ?_)
  · rw [if_pos c1] at hf
    refine lv_iconst (v := (0 : Int32)) hx hb dX4_sizeOf_21 (by decide) ?_
    obtain rfl := Option.some.inj hf
    exact k_retI hx hb hr hlocks hP hS dX4_sizeOf_22
  · rw [if_neg c1] at hf
    refine lv_iload_n hx hb dX4_sizeOf_4 rfl (lv_at hl 1 rfl) ?_
    refine lv_aload_n hx hb dX4_sizeOf_5 rfl (lv_at hl 0 rfl) ?_
    refine va_get (D := D) (ci := 3) (v := .int ct) (C := RX4) (T := TX4) (N := 4) hx hb hts (fun w h => List.mem_cons_of_mem _ (List.mem_append_right _ h)) hown hK hP 0 rfl rfl 3 (by decide) (hts (.fieldLink RX4 21 "DeltaWindows$Instructions" "count" "I") (List.mem_of_getElem? (i := 1) rfl)) (fun _ h9 => h9) rfl dX4_sizeOf_6 ?_
    refine lv_icmp_ge (tgt := 21) hx hb dX4_sizeOf_9 (by decide) (fun c2 => ?_) (fun c2 => ?_)
    · rw [if_pos c2] at hf
      refine lv_iconst (v := (0 : Int32)) hx hb dX4_sizeOf_21 (by decide) ?_
      obtain rfl := Option.some.inj hf
      exact k_retI hx hb hr hlocks hP hS dX4_sizeOf_22
    · rw [if_neg c2] at hf
      refine lv_aload_n hx hb dX4_sizeOf_12 rfl (lv_at hl 0 rfl) ?_
      refine va_get (D := D) (ci := 3) (v := .ref az) (C := RX4) (T := TX4) (N := 4) hx hb hts (fun w h => List.mem_cons_of_mem _ (List.mem_append_right _ h)) hown hK hP 0 rfl rfl 1 (by decide) (hts (.fieldLink RX4 15 "DeltaWindows$Instructions" "sizes" "[I") (List.mem_of_getElem? (i := 2) rfl)) (fun _ h9 => h9) rfl dX4_sizeOf_13 ?_
      refine lv_iload_n hx hb dX4_sizeOf_16 rfl (lv_at hl 1 rfl) ?_
      obtain ⟨g3, hf⟩ := g_inv hf
      refine va_iald hx hb hK hP 2 1 rfl rfl (inb_vp g3) dX4_sizeOf_17 ?_
      refine lv_goto (tgt := 22) hx hb dX4_sizeOf_18 (by decide) ?_
      obtain rfl := Option.some.inj hf
      exact k_retI hx hb hr hlocks hP hS dX4_sizeOf_22

noncomputable def fX4_singleCode (fk : Nat → Int32) (fz : Nat → Int32) (fm : Nat → Int32) (ct : Int32) (x1 : Int32) : Option (Int32) :=
  if x1 < 0 then
    some (-1 : Int32)
  else
    if ct ≤ x1 then
      some (-1 : Int32)
    else
      if inb x1 64 = true then
      if inb x1 64 = true then
      if inb x1 64 = true then
      (fX1_single (fk x1.toNatClampNeg) (fz x1.toNatClampNeg) (fm x1.toNatClampNeg)).bind fun R6 =>
      some R6
      else none
      else none
      else none

set_option maxHeartbeats 4000000 in
set_option maxRecDepth 100000 in
theorem kX4_singleCode (l : Launch) (D : va_G) (h : Nat) (ak : Nat) (az : Nat) (am : Nat) (cK : ClassId) (cZ : ClassId) (cM : ClassId) (fk : Nat → Int32) (fz : Nat → Int32) (fm : Nat → Int32) (ct : Int32) (x1 : Int32) {R : Int32} (hf : fX4_singleCode fk fz fm ct x1 = some R) : MI l yX4_singleCode wsX4_singleCode (rmD 1) D ([.ref h, .int x1] : List Value) (wI h ak az am cK cZ cM fk fz fm ct) [(cK, .int), (cZ, .int), (cM, .int)] NT R (wI h ak az am cK cZ cM fk fz fm ct) := by
  refine MI.mk (cc := cX4_singleCode) (maxL := 2) (ret := (some .int)) (by first | decide | decide +kernel) rfl (Nat.le_of_ble_eq_true rfl) ?_
  intro p e s m below meth cd A ls hE
  obtain ⟨hx, hb, hr, hml, hts, hown, hlocks, hP, hK, hD, hA, hN, hAe, hl⟩ := hE
  have hown : s.vm.findClass RX4 = some m.cls := hown
  have hS : va_S A s.heap s.heap [] := va_S.rf
  have hl : lv_has ls 2 [(0, .ref h), (1, .int x1)] := hl
  rw [fX4_singleCode] at hf
  refine lv_iload_n hx hb dX4_singleCode_0 rfl (lv_at hl 1 rfl) ?_
  refine lv_if_lt (tgt := 36) hx hb dX4_singleCode_1 (by decide) (fun c1 => ?_) (fun c1 => ?_)
  · rw [if_pos c1] at hf
    refine lv_iconst (v := (-1 : Int32)) hx hb dX4_singleCode_36 (by decide) ?_
    obtain rfl := Option.some.inj hf
    exact k_retI hx hb hr hlocks hP hS dX4_singleCode_37
  · rw [if_neg c1] at hf
    refine lv_iload_n hx hb dX4_singleCode_4 rfl (lv_at hl 1 rfl) ?_
    refine lv_aload_n hx hb dX4_singleCode_5 rfl (lv_at hl 0 rfl) ?_
    refine va_get (D := D) (ci := 3) (v := .int ct) (C := RX4) (T := TX4) (N := 4) hx hb hts (fun w h => List.mem_cons_of_mem _ (List.mem_append_right _ h)) hown hK hP 0 rfl rfl 3 (by decide) (hts (.fieldLink RX4 21 "DeltaWindows$Instructions" "count" "I") (List.mem_of_getElem? (i := 1) rfl)) (fun _ h9 => h9) rfl dX4_singleCode_6 ?_
    refine lv_icmp_ge (tgt := 36) hx hb dX4_singleCode_9 (by decide) (fun c2 => ?_) (fun c2 => ?_)
    · rw [if_pos c2] at hf
      refine lv_iconst (v := (-1 : Int32)) hx hb dX4_singleCode_36 (by decide) ?_
      obtain rfl := Option.some.inj hf
      exact k_retI hx hb hr hlocks hP hS dX4_singleCode_37
    · rw [if_neg c2] at hf
      refine lv_aload_n hx hb dX4_singleCode_12 rfl (lv_at hl 0 rfl) ?_
      refine va_get (D := D) (ci := 3) (v := .ref ak) (C := RX4) (T := TX4) (N := 4) hx hb hts (fun w h => List.mem_cons_of_mem _ (List.mem_append_right _ h)) hown hK hP 0 rfl rfl 0 (by decide) (hts (.fieldLink RX4 9 "DeltaWindows$Instructions" "kinds" "[I") (List.mem_of_getElem? (i := 2) rfl)) (fun _ h9 => h9) rfl dX4_singleCode_13 ?_
      refine lv_iload_n hx hb dX4_singleCode_16 rfl (lv_at hl 1 rfl) ?_
      obtain ⟨g3, hf⟩ := g_inv hf
      refine va_iald hx hb hK hP 1 0 rfl rfl (inb_vp g3) dX4_singleCode_17 ?_
      refine lv_aload_n hx hb dX4_singleCode_18 rfl (lv_at hl 0 rfl) ?_
      refine va_get (D := D) (ci := 3) (v := .ref az) (C := RX4) (T := TX4) (N := 4) hx hb hts (fun w h => List.mem_cons_of_mem _ (List.mem_append_right _ h)) hown hK hP 0 rfl rfl 1 (by decide) (hts (.fieldLink RX4 15 "DeltaWindows$Instructions" "sizes" "[I") (List.mem_of_getElem? (i := 3) rfl)) (fun _ h9 => h9) rfl dX4_singleCode_19 ?_
      refine lv_iload_n hx hb dX4_singleCode_22 rfl (lv_at hl 1 rfl) ?_
      obtain ⟨g4, hf⟩ := g_inv hf
      refine va_iald hx hb hK hP 2 1 rfl rfl (inb_vp g4) dX4_singleCode_23 ?_
      refine lv_aload_n hx hb dX4_singleCode_24 rfl (lv_at hl 0 rfl) ?_
      refine va_get (D := D) (ci := 3) (v := .ref am) (C := RX4) (T := TX4) (N := 4) hx hb hts (fun w h => List.mem_cons_of_mem _ (List.mem_append_right _ h)) hown hK hP 0 rfl rfl 2 (by decide) (hts (.fieldLink RX4 18 "DeltaWindows$Instructions" "modes" "[I") (List.mem_of_getElem? (i := 4) rfl)) (fun _ h9 => h9) rfl dX4_singleCode_25 ?_
      refine lv_iload_n hx hb dX4_singleCode_28 rfl (lv_at hl 1 rfl) ?_
      obtain ⟨g5, hf⟩ := g_inv hf
      refine va_iald hx hb hK hP 3 2 rfl rfl (inb_vp g5) dX4_singleCode_29 ?_
      obtain ⟨R6, hc7, hf⟩ := b_inv hf
      have hk := kcut (wc := ([] : va_W)) (wc' := ([] : va_W)) (wf := (wI h ak az am cK cZ cM fk fz fm ct)) hP hD hS hA [] rfl (by decide) rfl rfl
      refine k_goI (va_runS (As := [.int (fk x1.toNatClampNeg), .int (fz x1.toNatClampNeg), .int (fm x1.toNatClampNeg)]) (rest := []) ⟨hx, hb, hml, hown, hts⟩ (kX1_single l D (fk x1.toNatClampNeg) (fz x1.toNatClampNeg) (fm x1.toNatClampNeg) hc7 _) ⟨callB_of 3 hts ggX4_singleCode_X1_single rfl rfl rfl (hts (.initialized RX1) (List.mem_of_getElem? (i := 7) rfl)) (hts (.methodLink RX4 29 yX1_single) (List.mem_of_getElem? (i := 5) rfl)) (by decide +kernel) ⟨Nat.le_of_ble_eq_true rfl, Nat.le_of_ble_eq_true rfl⟩, (hts (.static yX1_single) (List.mem_of_getElem? (i := 6) rfl))⟩ (k_preS hk (hK.sub [] rfl) NT_bl NT_u) rfl rfl hl.1 rfl (lv_room (Nat.le_of_ble_eq_true rfl)) dX4_singleCode_30 ⟨Nat.zero_le _, Nat.zero_le _⟩) hk hS (fun H locs hP hD hS => ?_)
      refine lv_goto (tgt := 37) hx hb dX4_singleCode_33 (by decide) ?_
      obtain rfl := Option.some.inj hf
      exact k_retI hx hb hr hlocks hP hS dX4_singleCode_37

noncomputable def fX4_pairCode (fk : Nat → Int32) (fz : Nat → Int32) (fm : Nat → Int32) (ct : Int32) (x1 : Int32) : Option (Int32) :=
  if x1 < 0 then
    some (-1 : Int32)
  else
    if (x1 + (1 : Int32)) < ct then
      if inb x1 64 = true then
      if (fk x1.toNatClampNeg) = (1 : Int32) then
        if inb (x1 + (1 : Int32)) 64 = true then
        if (fk (x1 + (1 : Int32)).toNatClampNeg) = (3 : Int32) then
          if inb x1 64 = true then
          if inb (x1 + (1 : Int32)) 64 = true then
          if inb (x1 + (1 : Int32)) 64 = true then
          (fX1_addThenCopy (fz x1.toNatClampNeg) (fz (x1 + (1 : Int32)).toNatClampNeg) (fm (x1 + (1 : Int32)).toNatClampNeg)).bind fun R28 =>
          some R28
          else none
          else none
          else none
        else
          if inb x1 64 = true then
          if (fk x1.toNatClampNeg) = (3 : Int32) then
            if inb (x1 + (1 : Int32)) 64 = true then
            if (fk (x1 + (1 : Int32)).toNatClampNeg) = (1 : Int32) then
              if inb x1 64 = true then
              if inb x1 64 = true then
              if inb (x1 + (1 : Int32)) 64 = true then
              (fX1_copyThenAdd (fz x1.toNatClampNeg) (fm x1.toNatClampNeg) (fz (x1 + (1 : Int32)).toNatClampNeg)).bind fun R23 =>
              some R23
              else none
              else none
              else none
            else
              some (-1 : Int32)
            else none
          else
            some (-1 : Int32)
          else none
        else none
      else
        if inb x1 64 = true then
        if (fk x1.toNatClampNeg) = (3 : Int32) then
          if inb (x1 + (1 : Int32)) 64 = true then
          if (fk (x1 + (1 : Int32)).toNatClampNeg) = (1 : Int32) then
            if inb x1 64 = true then
            if inb x1 64 = true then
            if inb (x1 + (1 : Int32)) 64 = true then
            (fX1_copyThenAdd (fz x1.toNatClampNeg) (fm x1.toNatClampNeg) (fz (x1 + (1 : Int32)).toNatClampNeg)).bind fun R12 =>
            some R12
            else none
            else none
            else none
          else
            some (-1 : Int32)
          else none
        else
          some (-1 : Int32)
        else none
      else none
    else
      some (-1 : Int32)

set_option maxHeartbeats 4000000 in
set_option maxRecDepth 100000 in
theorem kX4_pairCode (l : Launch) (D : va_G) (h : Nat) (ak : Nat) (az : Nat) (am : Nat) (cK : ClassId) (cZ : ClassId) (cM : ClassId) (fk : Nat → Int32) (fz : Nat → Int32) (fm : Nat → Int32) (ct : Int32) (x1 : Int32) {R : Int32} (hf : fX4_pairCode fk fz fm ct x1 = some R) : MI l yX4_pairCode wsX4_pairCode (rmD 1) D ([.ref h, .int x1] : List Value) (wI h ak az am cK cZ cM fk fz fm ct) [(cK, .int), (cZ, .int), (cM, .int)] NT R (wI h ak az am cK cZ cM fk fz fm ct) := by
  refine MI.mk (cc := cX4_pairCode) (maxL := 3) (ret := (some .int)) (by first | decide | decide +kernel) rfl (Nat.le_of_ble_eq_true rfl) ?_
  intro p e s m below meth cd A ls hE
  obtain ⟨hx, hb, hr, hml, hts, hown, hlocks, hP, hK, hD, hA, hN, hAe, hl⟩ := hE
  have hown : s.vm.findClass RX4 = some m.cls := hown
  have hS : va_S A s.heap s.heap [] := va_S.rf
  have hl : lv_has ls 3 [(0, .ref h), (1, .int x1)] := hl
  rw [fX4_pairCode] at hf
  refine lv_iload_n hx hb dX4_pairCode_0 rfl (lv_at hl 1 rfl) ?_
  refine lv_iconst (v := (1 : Int32)) hx hb dX4_pairCode_1 (by decide) ?_
  refine lv_iadd hx hb dX4_pairCode_2 ?_
  refine lv_istore_n (lv' := [(2, .int (x1 + (1 : Int32))), (0, .ref h), (1, .int x1)]) hx hb dX4_pairCode_3 rfl hl (by decide) rfl (fun ls hl => ?_)
  refine lv_iload_n hx hb dX4_pairCode_4 rfl (lv_at hl 2 rfl) ?_
  refine lv_if_lt (tgt := 16) hx hb dX4_pairCode_5 (by decide) (fun c1 => ?_) (fun c1 => ?_)
  · rw [if_pos c1] at hf
    refine lv_iconst (v := (-1 : Int32)) hx hb dX4_pairCode_16 (by decide) ?_
    obtain rfl := Option.some.inj hf
    exact k_retI hx hb hr hlocks hP hS dX4_pairCode_17
  · rw [if_neg c1] at hf
    refine lv_iload_n hx hb dX4_pairCode_8 rfl (lv_at hl 0 rfl) ?_
    refine lv_aload_n hx hb dX4_pairCode_9 rfl (lv_at hl 1 rfl) ?_
    refine va_get (D := D) (ci := 3) (v := .int ct) (C := RX4) (T := TX4) (N := 4) hx hb hts (fun w h => List.mem_cons_of_mem _ (List.mem_append_right _ h)) hown hK hP 0 rfl rfl 3 (by decide) (hts (.fieldLink RX4 21 "DeltaWindows$Instructions" "count" "I") (List.mem_of_getElem? (i := 1) rfl)) (fun _ h9 => h9) rfl dX4_pairCode_10 ?_
    refine lv_icmp_lt (tgt := 18) hx hb dX4_pairCode_13 (by decide) (fun c2 => ?_) (fun c2 => ?_)
    · rw [if_pos c2] at hf
      refine lv_aload_n hx hb dX4_pairCode_18 rfl (lv_at hl 1 rfl) ?_
      refine va_get (D := D) (ci := 3) (v := .ref ak) (C := RX4) (T := TX4) (N := 4) hx hb hts (fun w h => List.mem_cons_of_mem _ (List.mem_append_right _ h)) hown hK hP 0 rfl rfl 0 (by decide) (hts (.fieldLink RX4 9 "DeltaWindows$Instructions" "kinds" "[I") (List.mem_of_getElem? (i := 2) rfl)) (fun _ h9 => h9) rfl dX4_pairCode_19 ?_
      refine lv_iload_n hx hb dX4_pairCode_22 rfl (lv_at hl 2 rfl) ?_
      obtain ⟨g3, hf⟩ := g_inv hf
      refine va_iald hx hb hK hP 1 0 rfl rfl (inb_vp g3) dX4_pairCode_23 ?_
      refine lv_iconst (v := (1 : Int32)) hx hb dX4_pairCode_24 (by decide) ?_
      refine lv_icmp_ne (tgt := 60) hx hb dX4_pairCode_25 (by decide) (fun c4 => ?_) (fun c4 => ?_)
      · rw [if_neg c4] at hf
        refine lv_aload_n hx hb dX4_pairCode_60 rfl (lv_at hl 1 rfl) ?_
        refine va_get (D := D) (ci := 3) (v := .ref ak) (C := RX4) (T := TX4) (N := 4) hx hb hts (fun w h => List.mem_cons_of_mem _ (List.mem_append_right _ h)) hown hK hP 0 rfl rfl 0 (by decide) (hts (.fieldLink RX4 9 "DeltaWindows$Instructions" "kinds" "[I") (List.mem_of_getElem? (i := 2) rfl)) (fun _ h9 => h9) rfl dX4_pairCode_61 ?_
        refine lv_iload_n hx hb dX4_pairCode_64 rfl (lv_at hl 2 rfl) ?_
        obtain ⟨g5, hf⟩ := g_inv hf
        refine va_iald hx hb hK hP 1 0 rfl rfl (inb_vp g5) dX4_pairCode_65 ?_
        refine lv_iconst (v := (3 : Int32)) hx hb dX4_pairCode_66 (by decide) ?_
        refine lv_icmp_ne (tgt := 102) hx hb dX4_pairCode_67 (by decide) (fun c6 => ?_) (fun c6 => ?_)
        · rw [if_neg c6] at hf
          refine lv_iconst (v := (-1 : Int32)) hx hb dX4_pairCode_102 (by decide) ?_
          obtain rfl := Option.some.inj hf
          exact k_retI hx hb hr hlocks hP hS dX4_pairCode_103
        · rw [if_pos c6] at hf
          refine lv_aload_n hx hb dX4_pairCode_70 rfl (lv_at hl 1 rfl) ?_
          refine va_get (D := D) (ci := 3) (v := .ref ak) (C := RX4) (T := TX4) (N := 4) hx hb hts (fun w h => List.mem_cons_of_mem _ (List.mem_append_right _ h)) hown hK hP 0 rfl rfl 0 (by decide) (hts (.fieldLink RX4 9 "DeltaWindows$Instructions" "kinds" "[I") (List.mem_of_getElem? (i := 2) rfl)) (fun _ h9 => h9) rfl dX4_pairCode_71 ?_
          refine lv_iload_n hx hb dX4_pairCode_74 rfl (lv_at hl 0 rfl) ?_
          obtain ⟨g7, hf⟩ := g_inv hf
          refine va_iald hx hb hK hP 1 0 rfl rfl (inb_vp g7) dX4_pairCode_75 ?_
          refine lv_iconst (v := (1 : Int32)) hx hb dX4_pairCode_76 (by decide) ?_
          refine lv_icmp_ne (tgt := 102) hx hb dX4_pairCode_77 (by decide) (fun c8 => ?_) (fun c8 => ?_)
          · rw [if_neg c8] at hf
            refine lv_iconst (v := (-1 : Int32)) hx hb dX4_pairCode_102 (by decide) ?_
            obtain rfl := Option.some.inj hf
            exact k_retI hx hb hr hlocks hP hS dX4_pairCode_103
          · rw [if_pos c8] at hf
            refine lv_aload_n hx hb dX4_pairCode_80 rfl (lv_at hl 1 rfl) ?_
            refine va_get (D := D) (ci := 3) (v := .ref az) (C := RX4) (T := TX4) (N := 4) hx hb hts (fun w h => List.mem_cons_of_mem _ (List.mem_append_right _ h)) hown hK hP 0 rfl rfl 1 (by decide) (hts (.fieldLink RX4 15 "DeltaWindows$Instructions" "sizes" "[I") (List.mem_of_getElem? (i := 3) rfl)) (fun _ h9 => h9) rfl dX4_pairCode_81 ?_
            refine lv_iload_n hx hb dX4_pairCode_84 rfl (lv_at hl 2 rfl) ?_
            obtain ⟨g9, hf⟩ := g_inv hf
            refine va_iald hx hb hK hP 2 1 rfl rfl (inb_vp g9) dX4_pairCode_85 ?_
            refine lv_aload_n hx hb dX4_pairCode_86 rfl (lv_at hl 1 rfl) ?_
            refine va_get (D := D) (ci := 3) (v := .ref am) (C := RX4) (T := TX4) (N := 4) hx hb hts (fun w h => List.mem_cons_of_mem _ (List.mem_append_right _ h)) hown hK hP 0 rfl rfl 2 (by decide) (hts (.fieldLink RX4 18 "DeltaWindows$Instructions" "modes" "[I") (List.mem_of_getElem? (i := 4) rfl)) (fun _ h9 => h9) rfl dX4_pairCode_87 ?_
            refine lv_iload_n hx hb dX4_pairCode_90 rfl (lv_at hl 2 rfl) ?_
            obtain ⟨g10, hf⟩ := g_inv hf
            refine va_iald hx hb hK hP 3 2 rfl rfl (inb_vp g10) dX4_pairCode_91 ?_
            refine lv_aload_n hx hb dX4_pairCode_92 rfl (lv_at hl 1 rfl) ?_
            refine va_get (D := D) (ci := 3) (v := .ref az) (C := RX4) (T := TX4) (N := 4) hx hb hts (fun w h => List.mem_cons_of_mem _ (List.mem_append_right _ h)) hown hK hP 0 rfl rfl 1 (by decide) (hts (.fieldLink RX4 15 "DeltaWindows$Instructions" "sizes" "[I") (List.mem_of_getElem? (i := 3) rfl)) (fun _ h9 => h9) rfl dX4_pairCode_93 ?_
            refine lv_iload_n hx hb dX4_pairCode_96 rfl (lv_at hl 0 rfl) ?_
            obtain ⟨g11, hf⟩ := g_inv hf
            refine va_iald hx hb hK hP 2 1 rfl rfl (inb_vp g11) dX4_pairCode_97 ?_
            obtain ⟨R12, hc13, hf⟩ := b_inv hf
            have hk := kcut (wc := ([] : va_W)) (wc' := ([] : va_W)) (wf := (wI h ak az am cK cZ cM fk fz fm ct)) hP hD hS hA [] rfl (by decide) rfl rfl
            refine k_goI (va_runS (As := [.int (fz x1.toNatClampNeg), .int (fm x1.toNatClampNeg), .int (fz (x1 + (1 : Int32)).toNatClampNeg)]) (rest := []) ⟨hx, hb, hml, hown, hts⟩ (kX1_copyThenAdd l D (fz x1.toNatClampNeg) (fm x1.toNatClampNeg) (fz (x1 + (1 : Int32)).toNatClampNeg) hc13 _) ⟨callB_of 3 hts ggX4_pairCode_X1_copyThenAdd rfl rfl rfl (hts (.initialized RX1) (List.mem_of_getElem? (i := 7) rfl)) (hts (.methodLink RX4 38 yX1_copyThenAdd) (List.mem_of_getElem? (i := 9) rfl)) (by decide +kernel) ⟨Nat.le_of_ble_eq_true rfl, Nat.le_of_ble_eq_true rfl⟩, (hts (.static yX1_copyThenAdd) (List.mem_of_getElem? (i := 10) rfl))⟩ (k_preS hk (hK.sub [] rfl) NT_bl NT_u) rfl rfl hl.1 rfl (lv_room (Nat.le_of_ble_eq_true rfl)) dX4_pairCode_98 ⟨Nat.zero_le _, Nat.zero_le _⟩) hk hS (fun H locs hP hD hS => ?_)
            obtain rfl := Option.some.inj hf
            exact k_retI hx hb hr hlocks hP hS dX4_pairCode_101
      · rw [if_pos c4] at hf
        refine lv_aload_n hx hb dX4_pairCode_28 rfl (lv_at hl 1 rfl) ?_
        refine va_get (D := D) (ci := 3) (v := .ref ak) (C := RX4) (T := TX4) (N := 4) hx hb hts (fun w h => List.mem_cons_of_mem _ (List.mem_append_right _ h)) hown hK hP 0 rfl rfl 0 (by decide) (hts (.fieldLink RX4 9 "DeltaWindows$Instructions" "kinds" "[I") (List.mem_of_getElem? (i := 2) rfl)) (fun _ h9 => h9) rfl dX4_pairCode_29 ?_
        refine lv_iload_n hx hb dX4_pairCode_32 rfl (lv_at hl 0 rfl) ?_
        obtain ⟨g14, hf⟩ := g_inv hf
        refine va_iald hx hb hK hP 1 0 rfl rfl (inb_vp g14) dX4_pairCode_33 ?_
        refine lv_iconst (v := (3 : Int32)) hx hb dX4_pairCode_34 (by decide) ?_
        refine lv_icmp_ne (tgt := 60) hx hb dX4_pairCode_35 (by decide) (fun c15 => ?_) (fun c15 => ?_)
        · rw [if_neg c15] at hf
          refine lv_aload_n hx hb dX4_pairCode_60 rfl (lv_at hl 1 rfl) ?_
          refine va_get (D := D) (ci := 3) (v := .ref ak) (C := RX4) (T := TX4) (N := 4) hx hb hts (fun w h => List.mem_cons_of_mem _ (List.mem_append_right _ h)) hown hK hP 0 rfl rfl 0 (by decide) (hts (.fieldLink RX4 9 "DeltaWindows$Instructions" "kinds" "[I") (List.mem_of_getElem? (i := 2) rfl)) (fun _ h9 => h9) rfl dX4_pairCode_61 ?_
          refine lv_iload_n hx hb dX4_pairCode_64 rfl (lv_at hl 2 rfl) ?_
          obtain ⟨g16, hf⟩ := g_inv hf
          refine va_iald hx hb hK hP 1 0 rfl rfl (inb_vp g16) dX4_pairCode_65 ?_
          refine lv_iconst (v := (3 : Int32)) hx hb dX4_pairCode_66 (by decide) ?_
          refine lv_icmp_ne (tgt := 102) hx hb dX4_pairCode_67 (by decide) (fun c17 => ?_) (fun c17 => ?_)
          · rw [if_neg c17] at hf
            refine lv_iconst (v := (-1 : Int32)) hx hb dX4_pairCode_102 (by decide) ?_
            obtain rfl := Option.some.inj hf
            exact k_retI hx hb hr hlocks hP hS dX4_pairCode_103
          · rw [if_pos c17] at hf
            refine lv_aload_n hx hb dX4_pairCode_70 rfl (lv_at hl 1 rfl) ?_
            refine va_get (D := D) (ci := 3) (v := .ref ak) (C := RX4) (T := TX4) (N := 4) hx hb hts (fun w h => List.mem_cons_of_mem _ (List.mem_append_right _ h)) hown hK hP 0 rfl rfl 0 (by decide) (hts (.fieldLink RX4 9 "DeltaWindows$Instructions" "kinds" "[I") (List.mem_of_getElem? (i := 2) rfl)) (fun _ h9 => h9) rfl dX4_pairCode_71 ?_
            refine lv_iload_n hx hb dX4_pairCode_74 rfl (lv_at hl 0 rfl) ?_
            obtain ⟨g18, hf⟩ := g_inv hf
            refine va_iald hx hb hK hP 1 0 rfl rfl (inb_vp g18) dX4_pairCode_75 ?_
            refine lv_iconst (v := (1 : Int32)) hx hb dX4_pairCode_76 (by decide) ?_
            refine lv_icmp_ne (tgt := 102) hx hb dX4_pairCode_77 (by decide) (fun c19 => ?_) (fun c19 => ?_)
            · rw [if_neg c19] at hf
              refine lv_iconst (v := (-1 : Int32)) hx hb dX4_pairCode_102 (by decide) ?_
              obtain rfl := Option.some.inj hf
              exact k_retI hx hb hr hlocks hP hS dX4_pairCode_103
            · rw [if_pos c19] at hf
              refine lv_aload_n hx hb dX4_pairCode_80 rfl (lv_at hl 1 rfl) ?_
              refine va_get (D := D) (ci := 3) (v := .ref az) (C := RX4) (T := TX4) (N := 4) hx hb hts (fun w h => List.mem_cons_of_mem _ (List.mem_append_right _ h)) hown hK hP 0 rfl rfl 1 (by decide) (hts (.fieldLink RX4 15 "DeltaWindows$Instructions" "sizes" "[I") (List.mem_of_getElem? (i := 3) rfl)) (fun _ h9 => h9) rfl dX4_pairCode_81 ?_
              refine lv_iload_n hx hb dX4_pairCode_84 rfl (lv_at hl 2 rfl) ?_
              obtain ⟨g20, hf⟩ := g_inv hf
              refine va_iald hx hb hK hP 2 1 rfl rfl (inb_vp g20) dX4_pairCode_85 ?_
              refine lv_aload_n hx hb dX4_pairCode_86 rfl (lv_at hl 1 rfl) ?_
              refine va_get (D := D) (ci := 3) (v := .ref am) (C := RX4) (T := TX4) (N := 4) hx hb hts (fun w h => List.mem_cons_of_mem _ (List.mem_append_right _ h)) hown hK hP 0 rfl rfl 2 (by decide) (hts (.fieldLink RX4 18 "DeltaWindows$Instructions" "modes" "[I") (List.mem_of_getElem? (i := 4) rfl)) (fun _ h9 => h9) rfl dX4_pairCode_87 ?_
              refine lv_iload_n hx hb dX4_pairCode_90 rfl (lv_at hl 2 rfl) ?_
              obtain ⟨g21, hf⟩ := g_inv hf
              refine va_iald hx hb hK hP 3 2 rfl rfl (inb_vp g21) dX4_pairCode_91 ?_
              refine lv_aload_n hx hb dX4_pairCode_92 rfl (lv_at hl 1 rfl) ?_
              refine va_get (D := D) (ci := 3) (v := .ref az) (C := RX4) (T := TX4) (N := 4) hx hb hts (fun w h => List.mem_cons_of_mem _ (List.mem_append_right _ h)) hown hK hP 0 rfl rfl 1 (by decide) (hts (.fieldLink RX4 15 "DeltaWindows$Instructions" "sizes" "[I") (List.mem_of_getElem? (i := 3) rfl)) (fun _ h9 => h9) rfl dX4_pairCode_93 ?_
              refine lv_iload_n hx hb dX4_pairCode_96 rfl (lv_at hl 0 rfl) ?_
              obtain ⟨g22, hf⟩ := g_inv hf
              refine va_iald hx hb hK hP 2 1 rfl rfl (inb_vp g22) dX4_pairCode_97 ?_
              obtain ⟨R23, hc24, hf⟩ := b_inv hf
              have hk := kcut (wc := ([] : va_W)) (wc' := ([] : va_W)) (wf := (wI h ak az am cK cZ cM fk fz fm ct)) hP hD hS hA [] rfl (by decide) rfl rfl
              refine k_goI (va_runS (As := [.int (fz x1.toNatClampNeg), .int (fm x1.toNatClampNeg), .int (fz (x1 + (1 : Int32)).toNatClampNeg)]) (rest := []) ⟨hx, hb, hml, hown, hts⟩ (kX1_copyThenAdd l D (fz x1.toNatClampNeg) (fm x1.toNatClampNeg) (fz (x1 + (1 : Int32)).toNatClampNeg) hc24 _) ⟨callB_of 3 hts ggX4_pairCode_X1_copyThenAdd rfl rfl rfl (hts (.initialized RX1) (List.mem_of_getElem? (i := 7) rfl)) (hts (.methodLink RX4 38 yX1_copyThenAdd) (List.mem_of_getElem? (i := 9) rfl)) (by decide +kernel) ⟨Nat.le_of_ble_eq_true rfl, Nat.le_of_ble_eq_true rfl⟩, (hts (.static yX1_copyThenAdd) (List.mem_of_getElem? (i := 10) rfl))⟩ (k_preS hk (hK.sub [] rfl) NT_bl NT_u) rfl rfl hl.1 rfl (lv_room (Nat.le_of_ble_eq_true rfl)) dX4_pairCode_98 ⟨Nat.zero_le _, Nat.zero_le _⟩) hk hS (fun H locs hP hD hS => ?_)
              obtain rfl := Option.some.inj hf
              exact k_retI hx hb hr hlocks hP hS dX4_pairCode_101
        · rw [if_pos c15] at hf
          refine lv_aload_n hx hb dX4_pairCode_38 rfl (lv_at hl 1 rfl) ?_
          refine va_get (D := D) (ci := 3) (v := .ref az) (C := RX4) (T := TX4) (N := 4) hx hb hts (fun w h => List.mem_cons_of_mem _ (List.mem_append_right _ h)) hown hK hP 0 rfl rfl 1 (by decide) (hts (.fieldLink RX4 15 "DeltaWindows$Instructions" "sizes" "[I") (List.mem_of_getElem? (i := 3) rfl)) (fun _ h9 => h9) rfl dX4_pairCode_39 ?_
          refine lv_iload_n hx hb dX4_pairCode_42 rfl (lv_at hl 2 rfl) ?_
          obtain ⟨g25, hf⟩ := g_inv hf
          refine va_iald hx hb hK hP 2 1 rfl rfl (inb_vp g25) dX4_pairCode_43 ?_
          refine lv_aload_n hx hb dX4_pairCode_44 rfl (lv_at hl 1 rfl) ?_
          refine va_get (D := D) (ci := 3) (v := .ref az) (C := RX4) (T := TX4) (N := 4) hx hb hts (fun w h => List.mem_cons_of_mem _ (List.mem_append_right _ h)) hown hK hP 0 rfl rfl 1 (by decide) (hts (.fieldLink RX4 15 "DeltaWindows$Instructions" "sizes" "[I") (List.mem_of_getElem? (i := 3) rfl)) (fun _ h9 => h9) rfl dX4_pairCode_45 ?_
          refine lv_iload_n hx hb dX4_pairCode_48 rfl (lv_at hl 0 rfl) ?_
          obtain ⟨g26, hf⟩ := g_inv hf
          refine va_iald hx hb hK hP 2 1 rfl rfl (inb_vp g26) dX4_pairCode_49 ?_
          refine lv_aload_n hx hb dX4_pairCode_50 rfl (lv_at hl 1 rfl) ?_
          refine va_get (D := D) (ci := 3) (v := .ref am) (C := RX4) (T := TX4) (N := 4) hx hb hts (fun w h => List.mem_cons_of_mem _ (List.mem_append_right _ h)) hown hK hP 0 rfl rfl 2 (by decide) (hts (.fieldLink RX4 18 "DeltaWindows$Instructions" "modes" "[I") (List.mem_of_getElem? (i := 4) rfl)) (fun _ h9 => h9) rfl dX4_pairCode_51 ?_
          refine lv_iload_n hx hb dX4_pairCode_54 rfl (lv_at hl 0 rfl) ?_
          obtain ⟨g27, hf⟩ := g_inv hf
          refine va_iald hx hb hK hP 3 2 rfl rfl (inb_vp g27) dX4_pairCode_55 ?_
          obtain ⟨R28, hc29, hf⟩ := b_inv hf
          have hk := kcut (wc := ([] : va_W)) (wc' := ([] : va_W)) (wf := (wI h ak az am cK cZ cM fk fz fm ct)) hP hD hS hA [] rfl (by decide) rfl rfl
          refine k_goI (va_runS (As := [.int (fz x1.toNatClampNeg), .int (fz (x1 + (1 : Int32)).toNatClampNeg), .int (fm (x1 + (1 : Int32)).toNatClampNeg)]) (rest := []) ⟨hx, hb, hml, hown, hts⟩ (kX1_addThenCopy l D (fz x1.toNatClampNeg) (fz (x1 + (1 : Int32)).toNatClampNeg) (fm (x1 + (1 : Int32)).toNatClampNeg) hc29 _) ⟨callB_of 3 hts ggX4_pairCode_X1_addThenCopy rfl rfl rfl (hts (.initialized RX1) (List.mem_of_getElem? (i := 7) rfl)) (hts (.methodLink RX4 35 yX1_addThenCopy) (List.mem_of_getElem? (i := 5) rfl)) (by decide +kernel) ⟨Nat.le_of_ble_eq_true rfl, Nat.le_of_ble_eq_true rfl⟩, (hts (.static yX1_addThenCopy) (List.mem_of_getElem? (i := 6) rfl))⟩ (k_preS hk (hK.sub [] rfl) NT_bl NT_u) rfl rfl hl.1 rfl (lv_room (Nat.le_of_ble_eq_true rfl)) dX4_pairCode_56 ⟨Nat.zero_le _, Nat.zero_le _⟩) hk hS (fun H locs hP hD hS => ?_)
          obtain rfl := Option.some.inj hf
          exact k_retI hx hb hr hlocks hP hS dX4_pairCode_59
    · rw [if_neg c2] at hf
      refine lv_iconst (v := (-1 : Int32)) hx hb dX4_pairCode_16 (by decide) ?_
      obtain rfl := Option.some.inj hf
      exact k_retI hx hb hr hlocks hP hS dX4_pairCode_17
end
