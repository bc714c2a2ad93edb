-- ===== PART A: goes FIRST, ahead of the names: the tables' words, and 'selects' of the private methods out of them =====
/-- a private method of a class that the tables say can be made, by its rows of tables_1 -/
def lw_okq (q : MethodName × Nat) : Prop := (q.1.cls ≠ "java/lang/invoke/MethodHandle" ∧ q.1.cls ≠ "java/lang/invoke/VarHandle") ∧ Cond.instantiable q.1.cls q.2 ∈ tables_1 ∧ Cond.privateMethod q.1 ∈ tables_1 ∧ Cond.instanceMethod q.1 ∈ tables_1
theorem lw_p0 : lw_okq (⟨"Uncomputery$Run", "isAtEdge", "()Z"⟩, 13) := ⟨⟨by decide +kernel, by decide +kernel⟩, List.mem_of_getElem? (i := 226) (by decide +kernel), List.mem_of_getElem? (i := 384) (by decide +kernel), List.mem_of_getElem? (i := 385) (by decide +kernel)⟩
theorem lw_p1 : lw_okq (⟨"Uncomputery$Circuit", "isPairDropped", "()Z"⟩, 5) := ⟨⟨by decide +kernel, by decide +kernel⟩, List.mem_of_getElem? (i := 278) (by decide +kernel), List.mem_of_getElem? (i := 427) (by decide +kernel), List.mem_of_getElem? (i := 428) (by decide +kernel)⟩
theorem lw_p2 : lw_okq (⟨"Uncomputery$Circuit", "partnerOf", "(I)I"⟩, 5) := ⟨⟨by decide +kernel, by decide +kernel⟩, List.mem_of_getElem? (i := 278) (by decide +kernel), List.mem_of_getElem? (i := 431) (by decide +kernel), List.mem_of_getElem? (i := 432) (by decide +kernel)⟩
theorem lw_p3 : lw_okq (⟨"Uncomputery$Circuit", "remove", "(I)V"⟩, 5) := ⟨⟨by decide +kernel, by decide +kernel⟩, List.mem_of_getElem? (i := 278) (by decide +kernel), List.mem_of_getElem? (i := 438) (by decide +kernel), List.mem_of_getElem? (i := 439) (by decide +kernel)⟩
theorem lw_p4 : lw_okq (⟨"Uncomputery$Circuit", "traceOutputs", "()V"⟩, 5) := ⟨⟨by decide +kernel, by decide +kernel⟩, List.mem_of_getElem? (i := 278) (by decide +kernel), List.mem_of_getElem? (i := 453) (by decide +kernel), List.mem_of_getElem? (i := 454) (by decide +kernel)⟩
theorem lw_p5 : lw_okq (⟨"Uncomputery$Circuit", "makeGate", "(II)V"⟩, 5) := ⟨⟨by decide +kernel, by decide +kernel⟩, List.mem_of_getElem? (i := 278) (by decide +kernel), List.mem_of_getElem? (i := 464) (by decide +kernel), List.mem_of_getElem? (i := 465) (by decide +kernel)⟩
theorem lw_p6 : lw_okq (⟨"Uncomputery$GateSearch", "kept", "(I)I"⟩, 1) := ⟨⟨by decide +kernel, by decide +kernel⟩, List.mem_of_getElem? (i := 472) (by decide +kernel), List.mem_of_getElem? (i := 491) (by decide +kernel), List.mem_of_getElem? (i := 492) (by decide +kernel)⟩
theorem lw_p7 : lw_okq (⟨"Uncomputery$GateSearch", "slotOf", "(I)I"⟩, 1) := ⟨⟨by decide +kernel, by decide +kernel⟩, List.mem_of_getElem? (i := 472) (by decide +kernel), List.mem_of_getElem? (i := 495) (by decide +kernel), List.mem_of_getElem? (i := 496) (by decide +kernel)⟩
theorem lw_p8 : lw_okq (⟨"Uncomputery$GateSearch", "inSlot", "(I)I"⟩, 1) := ⟨⟨by decide +kernel, by decide +kernel⟩, List.mem_of_getElem? (i := 472) (by decide +kernel), List.mem_of_getElem? (i := 500) (by decide +kernel), List.mem_of_getElem? (i := 501) (by decide +kernel)⟩
theorem lw_p9 : lw_okq (⟨"Uncomputery$GateSearch", "fill", "()V"⟩, 1) := ⟨⟨by decide +kernel, by decide +kernel⟩, List.mem_of_getElem? (i := 472) (by decide +kernel), List.mem_of_getElem? (i := 505) (by decide +kernel), List.mem_of_getElem? (i := 506) (by decide +kernel)⟩
theorem lw_p10 : lw_okq (⟨"Uncomputery$GateSearch", "keep", "(II)V"⟩, 1) := ⟨⟨by decide +kernel, by decide +kernel⟩, List.mem_of_getElem? (i := 472) (by decide +kernel), List.mem_of_getElem? (i := 509) (by decide +kernel), List.mem_of_getElem? (i := 510) (by decide +kernel)⟩
theorem lw_p11 : lw_okq (⟨"Uncomputery$GateSearch", "keepFollowers", "(II)V"⟩, 1) := ⟨⟨by decide +kernel, by decide +kernel⟩, List.mem_of_getElem? (i := 472) (by decide +kernel), List.mem_of_getElem? (i := 513) (by decide +kernel), List.mem_of_getElem? (i := 514) (by decide +kernel)⟩
theorem lw_p12 : lw_okq (⟨"Uncomputery$GateSearch", "isCompleted", "(II)Z"⟩, 1) := ⟨⟨by decide +kernel, by decide +kernel⟩, List.mem_of_getElem? (i := 472) (by decide +kernel), List.mem_of_getElem? (i := 521) (by decide +kernel), List.mem_of_getElem? (i := 522) (by decide +kernel)⟩
theorem lw_p13 : lw_okq (⟨"Uncomputery", "countImages", "()V"⟩, 17) := ⟨⟨by decide +kernel, by decide +kernel⟩, List.mem_of_getElem? (i := 49) (by decide +kernel), List.mem_of_getElem? (i := 554) (by decide +kernel), List.mem_of_getElem? (i := 555) (by decide +kernel)⟩
theorem lw_p14 : lw_okq (⟨"Uncomputery$Reader", "readRow", "(II)Z"⟩, 6) := ⟨⟨by decide +kernel, by decide +kernel⟩, List.mem_of_getElem? (i := 149) (by decide +kernel), List.mem_of_getElem? (i := 643) (by decide +kernel), List.mem_of_getElem? (i := 644) (by decide +kernel)⟩
theorem lw_p15 : lw_okq (⟨"Uncomputery$Reader", "sign", "()I"⟩, 6) := ⟨⟨by decide +kernel, by decide +kernel⟩, List.mem_of_getElem? (i := 149) (by decide +kernel), List.mem_of_getElem? (i := 647) (by decide +kernel), List.mem_of_getElem? (i := 648) (by decide +kernel)⟩
def lw_privs_1 : List (MethodName × Nat) := [(⟨"Uncomputery$Run", "isAtEdge", "()Z"⟩, 13), (⟨"Uncomputery$Circuit", "isPairDropped", "()Z"⟩, 5), (⟨"Uncomputery$Circuit", "partnerOf", "(I)I"⟩, 5), (⟨"Uncomputery$Circuit", "remove", "(I)V"⟩, 5), (⟨"Uncomputery$Circuit", "traceOutputs", "()V"⟩, 5), (⟨"Uncomputery$Circuit", "makeGate", "(II)V"⟩, 5), (⟨"Uncomputery$GateSearch", "kept", "(I)I"⟩, 1), (⟨"Uncomputery$GateSearch", "slotOf", "(I)I"⟩, 1), (⟨"Uncomputery$GateSearch", "inSlot", "(I)I"⟩, 1), (⟨"Uncomputery$GateSearch", "fill", "()V"⟩, 1), (⟨"Uncomputery$GateSearch", "keep", "(II)V"⟩, 1), (⟨"Uncomputery$GateSearch", "keepFollowers", "(II)V"⟩, 1), (⟨"Uncomputery$GateSearch", "isCompleted", "(II)Z"⟩, 1), (⟨"Uncomputery", "countImages", "()V"⟩, 17), (⟨"Uncomputery$Reader", "readRow", "(II)Z"⟩, 6), (⟨"Uncomputery$Reader", "sign", "()I"⟩, 6)]
theorem lw_r1 : ∀ q ∈ lw_privs_1, lw_okq q := List.forall_mem_cons.mpr ⟨lw_p0, List.forall_mem_cons.mpr ⟨lw_p1, List.forall_mem_cons.mpr ⟨lw_p2, List.forall_mem_cons.mpr ⟨lw_p3, List.forall_mem_cons.mpr ⟨lw_p4, List.forall_mem_cons.mpr ⟨lw_p5, List.forall_mem_cons.mpr ⟨lw_p6, List.forall_mem_cons.mpr ⟨lw_p7, List.forall_mem_cons.mpr ⟨lw_p8, List.forall_mem_cons.mpr ⟨lw_p9, List.forall_mem_cons.mpr ⟨lw_p10, List.forall_mem_cons.mpr ⟨lw_p11, List.forall_mem_cons.mpr ⟨lw_p12, List.forall_mem_cons.mpr ⟨lw_p13, List.forall_mem_cons.mpr ⟨lw_p14, List.forall_mem_cons.mpr ⟨lw_p15, fun _ h => absurd h List.not_mem_nil⟩⟩⟩⟩⟩⟩⟩⟩⟩⟩⟩⟩⟩⟩⟩⟩
theorem lw_p16 : lw_okq (⟨"Uncomputery$Reader", "readStatement", "(I)Z"⟩, 6) := ⟨⟨by decide +kernel, by decide +kernel⟩, List.mem_of_getElem? (i := 149) (by decide +kernel), List.mem_of_getElem? (i := 651) (by decide +kernel), List.mem_of_getElem? (i := 652) (by decide +kernel)⟩
theorem lw_p17 : lw_okq (⟨"Uncomputery$Reader", "readChange", "()Z"⟩, 6) := ⟨⟨by decide +kernel, by decide +kernel⟩, List.mem_of_getElem? (i := 149) (by decide +kernel), List.mem_of_getElem? (i := 658) (by decide +kernel), List.mem_of_getElem? (i := 659) (by decide +kernel)⟩
theorem lw_p18 : lw_okq (⟨"Uncomputery$Reader", "fail", "(CI)Z"⟩, 6) := ⟨⟨by decide +kernel, by decide +kernel⟩, List.mem_of_getElem? (i := 149) (by decide +kernel), List.mem_of_getElem? (i := 662) (by decide +kernel), List.mem_of_getElem? (i := 663) (by decide +kernel)⟩
theorem lw_p19 : lw_okq (⟨"Uncomputery$Reader", "readPartner", "(LUncomputery$Instruction;)Z"⟩, 6) := ⟨⟨by decide +kernel, by decide +kernel⟩, List.mem_of_getElem? (i := 149) (by decide +kernel), List.mem_of_getElem? (i := 674) (by decide +kernel), List.mem_of_getElem? (i := 675) (by decide +kernel)⟩
theorem lw_p20 : lw_okq (⟨"Uncomputery$Reader", "readTerm", "()Z"⟩, 6) := ⟨⟨by decide +kernel, by decide +kernel⟩, List.mem_of_getElem? (i := 149) (by decide +kernel), List.mem_of_getElem? (i := 679) (by decide +kernel), List.mem_of_getElem? (i := 680) (by decide +kernel)⟩
theorem lw_p21 : lw_okq (⟨"Uncomputery$Reader", "readStacking", "(C)Z"⟩, 6) := ⟨⟨by decide +kernel, by decide +kernel⟩, List.mem_of_getElem? (i := 149) (by decide +kernel), List.mem_of_getElem? (i := 692) (by decide +kernel), List.mem_of_getElem? (i := 693) (by decide +kernel)⟩
theorem lw_p22 : lw_okq (⟨"Uncomputery$Reader", "readCall", "(C)Z"⟩, 6) := ⟨⟨by decide +kernel, by decide +kernel⟩, List.mem_of_getElem? (i := 149) (by decide +kernel), List.mem_of_getElem? (i := 696) (by decide +kernel), List.mem_of_getElem? (i := 697) (by decide +kernel)⟩
theorem lw_p23 : lw_okq (⟨"Uncomputery$Reader", "readBracket", "(CCCI)Z"⟩, 6) := ⟨⟨by decide +kernel, by decide +kernel⟩, List.mem_of_getElem? (i := 149) (by decide +kernel), List.mem_of_getElem? (i := 700) (by decide +kernel), List.mem_of_getElem? (i := 701) (by decide +kernel)⟩
theorem lw_p24 : lw_okq (⟨"Uncomputery$Reader", "readTest", "(LUncomputery$Instruction;)Z"⟩, 6) := ⟨⟨by decide +kernel, by decide +kernel⟩, List.mem_of_getElem? (i := 149) (by decide +kernel), List.mem_of_getElem? (i := 705) (by decide +kernel), List.mem_of_getElem? (i := 706) (by decide +kernel)⟩
theorem lw_p25 : lw_okq (⟨"Uncomputery$Reader", "passOver", "(CC)Z"⟩, 6) := ⟨⟨by decide +kernel, by decide +kernel⟩, List.mem_of_getElem? (i := 149) (by decide +kernel), List.mem_of_getElem? (i := 712) (by decide +kernel), List.mem_of_getElem? (i := 713) (by decide +kernel)⟩
theorem lw_p26 : lw_okq (⟨"Uncomputery", "isCircuitSound", "()Z"⟩, 17) := ⟨⟨by decide +kernel, by decide +kernel⟩, List.mem_of_getElem? (i := 49) (by decide +kernel), List.mem_of_getElem? (i := 732) (by decide +kernel), List.mem_of_getElem? (i := 733) (by decide +kernel)⟩
theorem lw_p27 : lw_okq (⟨"java/lang/Throwable", "fillInStackTrace", "(I)Ljava/lang/Throwable;"⟩, 6) := ⟨⟨by decide +kernel, by decide +kernel⟩, List.mem_of_getElem? (i := 802) (by decide +kernel), List.mem_of_getElem? (i := 800) (by decide +kernel), List.mem_of_getElem? (i := 801) (by decide +kernel)⟩
theorem lw_p28 : lw_okq (⟨"Uncomputery$Run", "enter", "(IZ)V"⟩, 13) := ⟨⟨by decide +kernel, by decide +kernel⟩, List.mem_of_getElem? (i := 226) (by decide +kernel), List.mem_of_getElem? (i := 1023) (by decide +kernel), List.mem_of_getElem? (i := 1024) (by decide +kernel)⟩
theorem lw_p29 : lw_okq (⟨"Uncomputery$Run", "comeBack", "()V"⟩, 13) := ⟨⟨by decide +kernel, by decide +kernel⟩, List.mem_of_getElem? (i := 226) (by decide +kernel), List.mem_of_getElem? (i := 1044) (by decide +kernel), List.mem_of_getElem? (i := 1045) (by decide +kernel)⟩
theorem lw_p30 : lw_okq (⟨"Uncomputery$Run", "step", "()Z"⟩, 13) := ⟨⟨by decide +kernel, by decide +kernel⟩, List.mem_of_getElem? (i := 226) (by decide +kernel), List.mem_of_getElem? (i := 1049) (by decide +kernel), List.mem_of_getElem? (i := 1050) (by decide +kernel)⟩
theorem lw_p31 : lw_okq (⟨"Uncomputery$Run", "update", "(LUncomputery$Instruction;)V"⟩, 13) := ⟨⟨by decide +kernel, by decide +kernel⟩, List.mem_of_getElem? (i := 226) (by decide +kernel), List.mem_of_getElem? (i := 1054) (by decide +kernel), List.mem_of_getElem? (i := 1055) (by decide +kernel)⟩
def lw_privs_2 : List (MethodName × Nat) := [(⟨"Uncomputery$Reader", "readStatement", "(I)Z"⟩, 6), (⟨"Uncomputery$Reader", "readChange", "()Z"⟩, 6), (⟨"Uncomputery$Reader", "fail", "(CI)Z"⟩, 6), (⟨"Uncomputery$Reader", "readPartner", "(LUncomputery$Instruction;)Z"⟩, 6), (⟨"Uncomputery$Reader", "readTerm", "()Z"⟩, 6), (⟨"Uncomputery$Reader", "readStacking", "(C)Z"⟩, 6), (⟨"Uncomputery$Reader", "readCall", "(C)Z"⟩, 6), (⟨"Uncomputery$Reader", "readBracket", "(CCCI)Z"⟩, 6), (⟨"Uncomputery$Reader", "readTest", "(LUncomputery$Instruction;)Z"⟩, 6), (⟨"Uncomputery$Reader", "passOver", "(CC)Z"⟩, 6), (⟨"Uncomputery", "isCircuitSound", "()Z"⟩, 17), (⟨"java/lang/Throwable", "fillInStackTrace", "(I)Ljava/lang/Throwable;"⟩, 6), (⟨"Uncomputery$Run", "enter", "(IZ)V"⟩, 13), (⟨"Uncomputery$Run", "comeBack", "()V"⟩, 13), (⟨"Uncomputery$Run", "step", "()Z"⟩, 13), (⟨"Uncomputery$Run", "update", "(LUncomputery$Instruction;)V"⟩, 13)]
theorem lw_r2 : ∀ q ∈ lw_privs_2, lw_okq q := List.forall_mem_cons.mpr ⟨lw_p16, List.forall_mem_cons.mpr ⟨lw_p17, List.forall_mem_cons.mpr ⟨lw_p18, List.forall_mem_cons.mpr ⟨lw_p19, List.forall_mem_cons.mpr ⟨lw_p20, List.forall_mem_cons.mpr ⟨lw_p21, List.forall_mem_cons.mpr ⟨lw_p22, List.forall_mem_cons.mpr ⟨lw_p23, List.forall_mem_cons.mpr ⟨lw_p24, List.forall_mem_cons.mpr ⟨lw_p25, List.forall_mem_cons.mpr ⟨lw_p26, List.forall_mem_cons.mpr ⟨lw_p27, List.forall_mem_cons.mpr ⟨lw_p28, List.forall_mem_cons.mpr ⟨lw_p29, List.forall_mem_cons.mpr ⟨lw_p30, List.forall_mem_cons.mpr ⟨lw_p31, fun _ h => absurd h List.not_mem_nil⟩⟩⟩⟩⟩⟩⟩⟩⟩⟩⟩⟩⟩⟩⟩⟩
theorem lw_p32 : lw_okq (⟨"Uncomputery$Run", "swap", "(II)V"⟩, 13) := ⟨⟨by decide +kernel, by decide +kernel⟩, List.mem_of_getElem? (i := 226) (by decide +kernel), List.mem_of_getElem? (i := 1069) (by decide +kernel), List.mem_of_getElem? (i := 1070) (by decide +kernel)⟩
theorem lw_p33 : lw_okq (⟨"Uncomputery$Run", "moveStacked", "(LUncomputery$Instruction;)Z"⟩, 13) := ⟨⟨by decide +kernel, by decide +kernel⟩, List.mem_of_getElem? (i := 226) (by decide +kernel), List.mem_of_getElem? (i := 1073) (by decide +kernel), List.mem_of_getElem? (i := 1074) (by decide +kernel)⟩
theorem lw_p34 : lw_okq (⟨"Uncomputery$Run", "breakOff", "(CI)Z"⟩, 13) := ⟨⟨by decide +kernel, by decide +kernel⟩, List.mem_of_getElem? (i := 226) (by decide +kernel), List.mem_of_getElem? (i := 1078) (by decide +kernel), List.mem_of_getElem? (i := 1079) (by decide +kernel)⟩
theorem lw_p35 : lw_okq (⟨"Uncomputery$Run", "goIn", "(LUncomputery$Instruction;I)Z"⟩, 13) := ⟨⟨by decide +kernel, by decide +kernel⟩, List.mem_of_getElem? (i := 226) (by decide +kernel), List.mem_of_getElem? (i := 1090) (by decide +kernel), List.mem_of_getElem? (i := 1091) (by decide +kernel)⟩
theorem lw_p36 : lw_okq (⟨"Uncomputery$Run", "passAhead", "(LUncomputery$Code;LUncomputery$Instruction;I)Z"⟩, 13) := ⟨⟨by decide +kernel, by decide +kernel⟩, List.mem_of_getElem? (i := 226) (by decide +kernel), List.mem_of_getElem? (i := 1095) (by decide +kernel), List.mem_of_getElem? (i := 1096) (by decide +kernel)⟩
theorem lw_p37 : lw_okq (⟨"Uncomputery$Run", "moveTo", "(I)Z"⟩, 13) := ⟨⟨by decide +kernel, by decide +kernel⟩, List.mem_of_getElem? (i := 226) (by decide +kernel), List.mem_of_getElem? (i := 1103) (by decide +kernel), List.mem_of_getElem? (i := 1104) (by decide +kernel)⟩
theorem lw_p38 : lw_okq (⟨"Uncomputery$Run", "breakAtTest", "(ICI)Z"⟩, 13) := ⟨⟨by decide +kernel, by decide +kernel⟩, List.mem_of_getElem? (i := 226) (by decide +kernel), List.mem_of_getElem? (i := 1107) (by decide +kernel), List.mem_of_getElem? (i := 1108) (by decide +kernel)⟩
theorem lw_p39 : lw_okq (⟨"Uncomputery$Run", "passBack", "(LUncomputery$Code;LUncomputery$Instruction;I)Z"⟩, 13) := ⟨⟨by decide +kernel, by decide +kernel⟩, List.mem_of_getElem? (i := 226) (by decide +kernel), List.mem_of_getElem? (i := 1111) (by decide +kernel), List.mem_of_getElem? (i := 1112) (by decide +kernel)⟩
theorem lw_p40 : lw_okq (⟨"Uncomputery", "tryToEnd", "(III)Z"⟩, 17) := ⟨⟨by decide +kernel, by decide +kernel⟩, List.mem_of_getElem? (i := 49) (by decide +kernel), List.mem_of_getElem? (i := 1221) (by decide +kernel), List.mem_of_getElem? (i := 1222) (by decide +kernel)⟩
theorem lw_p41 : lw_okq (⟨"Uncomputery", "countOf", "(II)I"⟩, 17) := ⟨⟨by decide +kernel, by decide +kernel⟩, List.mem_of_getElem? (i := 49) (by decide +kernel), List.mem_of_getElem? (i := 1239) (by decide +kernel), List.mem_of_getElem? (i := 1240) (by decide +kernel)⟩
theorem lw_p42 : lw_okq (⟨"Uncomputery", "fewestMoves", "(II)I"⟩, 17) := ⟨⟨by decide +kernel, by decide +kernel⟩, List.mem_of_getElem? (i := 49) (by decide +kernel), List.mem_of_getElem? (i := 1312) (by decide +kernel), List.mem_of_getElem? (i := 1313) (by decide +kernel)⟩
theorem lw_p43 : lw_okq (⟨"Uncomputery$PebbleLine", "reach", "(II)V"⟩, 3) := ⟨⟨by decide +kernel, by decide +kernel⟩, List.mem_of_getElem? (i := 1316) (by decide +kernel), List.mem_of_getElem? (i := 1337) (by decide +kernel), List.mem_of_getElem? (i := 1338) (by decide +kernel)⟩
theorem lw_p44 : lw_okq (⟨"Uncomputery$PebbleLine", "movesTo", "(I)I"⟩, 3) := ⟨⟨by decide +kernel, by decide +kernel⟩, List.mem_of_getElem? (i := 1316) (by decide +kernel), List.mem_of_getElem? (i := 1345) (by decide +kernel), List.mem_of_getElem? (i := 1346) (by decide +kernel)⟩
theorem lw_p45 : lw_okq (⟨"UncomputeryModel", "isWrong", "(I)Z"⟩, 11) := ⟨⟨by decide +kernel, by decide +kernel⟩, List.mem_of_getElem? (i := 1366) (by decide +kernel), List.mem_of_getElem? (i := 1505) (by decide +kernel), List.mem_of_getElem? (i := 1506) (by decide +kernel)⟩
theorem lw_p46 : lw_okq (⟨"UncomputeryModel", "faultOf", "(Ljava/lang/String;)LUncomputeryModel$Fault;"⟩, 11) := ⟨⟨by decide +kernel, by decide +kernel⟩, List.mem_of_getElem? (i := 1366) (by decide +kernel), List.mem_of_getElem? (i := 1767) (by decide +kernel), List.mem_of_getElem? (i := 1768) (by decide +kernel)⟩
theorem lw_p47 : lw_okq (⟨"UncomputeryModel$Reader", "isEnd", "(C)Z"⟩, 3) := ⟨⟨by decide +kernel, by decide +kernel⟩, List.mem_of_getElem? (i := 1772) (by decide +kernel), List.mem_of_getElem? (i := 1798) (by decide +kernel), List.mem_of_getElem? (i := 1799) (by decide +kernel)⟩
def lw_privs_3 : List (MethodName × Nat) := [(⟨"Uncomputery$Run", "swap", "(II)V"⟩, 13), (⟨"Uncomputery$Run", "moveStacked", "(LUncomputery$Instruction;)Z"⟩, 13), (⟨"Uncomputery$Run", "breakOff", "(CI)Z"⟩, 13), (⟨"Uncomputery$Run", "goIn", "(LUncomputery$Instruction;I)Z"⟩, 13), (⟨"Uncomputery$Run", "passAhead", "(LUncomputery$Code;LUncomputery$Instruction;I)Z"⟩, 13), (⟨"Uncomputery$Run", "moveTo", "(I)Z"⟩, 13), (⟨"Uncomputery$Run", "breakAtTest", "(ICI)Z"⟩, 13), (⟨"Uncomputery$Run", "passBack", "(LUncomputery$Code;LUncomputery$Instruction;I)Z"⟩, 13), (⟨"Uncomputery", "tryToEnd", "(III)Z"⟩, 17), (⟨"Uncomputery", "countOf", "(II)I"⟩, 17), (⟨"Uncomputery", "fewestMoves", "(II)I"⟩, 17), (⟨"Uncomputery$PebbleLine", "reach", "(II)V"⟩, 3), (⟨"Uncomputery$PebbleLine", "movesTo", "(I)I"⟩, 3), (⟨"UncomputeryModel", "isWrong", "(I)Z"⟩, 11), (⟨"UncomputeryModel", "faultOf", "(Ljava/lang/String;)LUncomputeryModel$Fault;"⟩, 11), (⟨"UncomputeryModel$Reader", "isEnd", "(C)Z"⟩, 3)]
theorem lw_r3 : ∀ q ∈ lw_privs_3, lw_okq q := List.forall_mem_cons.mpr ⟨lw_p32, List.forall_mem_cons.mpr ⟨lw_p33, List.forall_mem_cons.mpr ⟨lw_p34, List.forall_mem_cons.mpr ⟨lw_p35, List.forall_mem_cons.mpr ⟨lw_p36, List.forall_mem_cons.mpr ⟨lw_p37, List.forall_mem_cons.mpr ⟨lw_p38, List.forall_mem_cons.mpr ⟨lw_p39, List.forall_mem_cons.mpr ⟨lw_p40, List.forall_mem_cons.mpr ⟨lw_p41, List.forall_mem_cons.mpr ⟨lw_p42, List.forall_mem_cons.mpr ⟨lw_p43, List.forall_mem_cons.mpr ⟨lw_p44, List.forall_mem_cons.mpr ⟨lw_p45, List.forall_mem_cons.mpr ⟨lw_p46, List.forall_mem_cons.mpr ⟨lw_p47, fun _ h => absurd h List.not_mem_nil⟩⟩⟩⟩⟩⟩⟩⟩⟩⟩⟩⟩⟩⟩⟩⟩
theorem lw_p48 : lw_okq (⟨"UncomputeryModel$Reader", "now", "()C"⟩, 3) := ⟨⟨by decide +kernel, by decide +kernel⟩, List.mem_of_getElem? (i := 1772) (by decide +kernel), List.mem_of_getElem? (i := 1803) (by decide +kernel), List.mem_of_getElem? (i := 1804) (by decide +kernel)⟩
theorem lw_p49 : lw_okq (⟨"UncomputeryModel$Reader", "part", "()LUncomputeryModel$Part;"⟩, 3) := ⟨⟨by decide +kernel, by decide +kernel⟩, List.mem_of_getElem? (i := 1772) (by decide +kernel), List.mem_of_getElem? (i := 1822) (by decide +kernel), List.mem_of_getElem? (i := 1823) (by decide +kernel)⟩
theorem lw_p50 : lw_okq (⟨"UncomputeryModel$Reader", "update", "()LUncomputeryModel$Part;"⟩, 3) := ⟨⟨by decide +kernel, by decide +kernel⟩, List.mem_of_getElem? (i := 1772) (by decide +kernel), List.mem_of_getElem? (i := 1829) (by decide +kernel), List.mem_of_getElem? (i := 1830) (by decide +kernel)⟩
theorem lw_p51 : lw_okq (⟨"UncomputeryModel$Reader", "variable", "(C)I"⟩, 3) := ⟨⟨by decide +kernel, by decide +kernel⟩, List.mem_of_getElem? (i := 1772) (by decide +kernel), List.mem_of_getElem? (i := 1833) (by decide +kernel), List.mem_of_getElem? (i := 1834) (by decide +kernel)⟩
theorem lw_p52 : lw_okq (⟨"UncomputeryModel$Reader", "wants", "(ZC)V"⟩, 3) := ⟨⟨by decide +kernel, by decide +kernel⟩, List.mem_of_getElem? (i := 1772) (by decide +kernel), List.mem_of_getElem? (i := 1837) (by decide +kernel), List.mem_of_getElem? (i := 1838) (by decide +kernel)⟩
theorem lw_p53 : lw_okq (⟨"UncomputeryModel$Reader", "term", "(LUncomputeryModel$Sum;)V"⟩, 3) := ⟨⟨by decide +kernel, by decide +kernel⟩, List.mem_of_getElem? (i := 1772) (by decide +kernel), List.mem_of_getElem? (i := 1985) (by decide +kernel), List.mem_of_getElem? (i := 1986) (by decide +kernel)⟩
theorem lw_p54 : lw_okq (⟨"UncomputeryModel$Reader", "bracket", "(LUncomputeryModel$Part;)LUncomputeryModel$Part;"⟩, 3) := ⟨⟨by decide +kernel, by decide +kernel⟩, List.mem_of_getElem? (i := 1772) (by decide +kernel), List.mem_of_getElem? (i := 1999) (by decide +kernel), List.mem_of_getElem? (i := 2000) (by decide +kernel)⟩
theorem lw_p55 : lw_okq (⟨"UncomputeryModel$Reader", "test", "()LUncomputeryModel$Sum;"⟩, 3) := ⟨⟨by decide +kernel, by decide +kernel⟩, List.mem_of_getElem? (i := 1772) (by decide +kernel), List.mem_of_getElem? (i := 2003) (by decide +kernel), List.mem_of_getElem? (i := 2004) (by decide +kernel)⟩
theorem lw_p56 : lw_okq (⟨"UncomputeryModel$Reader", "skips", "(CC)V"⟩, 3) := ⟨⟨by decide +kernel, by decide +kernel⟩, List.mem_of_getElem? (i := 1772) (by decide +kernel), List.mem_of_getElem? (i := 2007) (by decide +kernel), List.mem_of_getElem? (i := 2008) (by decide +kernel)⟩
theorem lw_p57 : lw_okq (⟨"java/util/ArrayList", "add", "(Ljava/lang/Object;[Ljava/lang/Object;I)V"⟩, 3) := ⟨⟨by decide +kernel, by decide +kernel⟩, List.mem_of_getElem? (i := 1372) (by decide +kernel), List.mem_of_getElem? (i := 2021) (by decide +kernel), List.mem_of_getElem? (i := 2022) (by decide +kernel)⟩
theorem lw_p58 : lw_okq (⟨"java/util/ArrayList", "grow", "()[Ljava/lang/Object;"⟩, 3) := ⟨⟨by decide +kernel, by decide +kernel⟩, List.mem_of_getElem? (i := 1372) (by decide +kernel), List.mem_of_getElem? (i := 2025) (by decide +kernel), List.mem_of_getElem? (i := 2026) (by decide +kernel)⟩
theorem lw_p59 : lw_okq (⟨"java/util/ArrayList", "grow", "(I)[Ljava/lang/Object;"⟩, 3) := ⟨⟨by decide +kernel, by decide +kernel⟩, List.mem_of_getElem? (i := 1372) (by decide +kernel), List.mem_of_getElem? (i := 2029) (by decide +kernel), List.mem_of_getElem? (i := 2030) (by decide +kernel)⟩
theorem lw_p60 : lw_okq (⟨"UncomputeryModel$Procedure", "lays", "(Ljava/util/List;)V"⟩, 3) := ⟨⟨by decide +kernel, by decide +kernel⟩, List.mem_of_getElem? (i := 2096) (by decide +kernel), List.mem_of_getElem? (i := 2104) (by decide +kernel), List.mem_of_getElem? (i := 2105) (by decide +kernel)⟩
theorem lw_p61 : lw_okq (⟨"UncomputeryModel", "isProcedure", "(I)Z"⟩, 11) := ⟨⟨by decide +kernel, by decide +kernel⟩, List.mem_of_getElem? (i := 1366) (by decide +kernel), List.mem_of_getElem? (i := 2222) (by decide +kernel), List.mem_of_getElem? (i := 2223) (by decide +kernel)⟩
theorem lw_p62 : lw_okq (⟨"UncomputeryModel$Sum", "term", "(I)Ljava/lang/String;"⟩, 4) := ⟨⟨by decide +kernel, by decide +kernel⟩, List.mem_of_getElem? (i := 1962) (by decide +kernel), List.mem_of_getElem? (i := 2292) (by decide +kernel), List.mem_of_getElem? (i := 2293) (by decide +kernel)⟩
theorem lw_p63 : lw_okq (⟨"UncomputeryModel$World", "comesBack", "()V"⟩, 11) := ⟨⟨by decide +kernel, by decide +kernel⟩, List.mem_of_getElem? (i := 1401) (by decide +kernel), List.mem_of_getElem? (i := 2371) (by decide +kernel), List.mem_of_getElem? (i := 2372) (by decide +kernel)⟩
def lw_privs_4 : List (MethodName × Nat) := [(⟨"UncomputeryModel$Reader", "now", "()C"⟩, 3), (⟨"UncomputeryModel$Reader", "part", "()LUncomputeryModel$Part;"⟩, 3), (⟨"UncomputeryModel$Reader", "update", "()LUncomputeryModel$Part;"⟩, 3), (⟨"UncomputeryModel$Reader", "variable", "(C)I"⟩, 3), (⟨"UncomputeryModel$Reader", "wants", "(ZC)V"⟩, 3), (⟨"UncomputeryModel$Reader", "term", "(LUncomputeryModel$Sum;)V"⟩, 3), (⟨"UncomputeryModel$Reader", "bracket", "(LUncomputeryModel$Part;)LUncomputeryModel$Part;"⟩, 3), (⟨"UncomputeryModel$Reader", "test", "()LUncomputeryModel$Sum;"⟩, 3), (⟨"UncomputeryModel$Reader", "skips", "(CC)V"⟩, 3), (⟨"java/util/ArrayList", "add", "(Ljava/lang/Object;[Ljava/lang/Object;I)V"⟩, 3), (⟨"java/util/ArrayList", "grow", "()[Ljava/lang/Object;"⟩, 3), (⟨"java/util/ArrayList", "grow", "(I)[Ljava/lang/Object;"⟩, 3), (⟨"UncomputeryModel$Procedure", "lays", "(Ljava/util/List;)V"⟩, 3), (⟨"UncomputeryModel", "isProcedure", "(I)Z"⟩, 11), (⟨"UncomputeryModel$Sum", "term", "(I)Ljava/lang/String;"⟩, 4), (⟨"UncomputeryModel$World", "comesBack", "()V"⟩, 11)]
theorem lw_r4 : ∀ q ∈ lw_privs_4, lw_okq q := List.forall_mem_cons.mpr ⟨lw_p48, List.forall_mem_cons.mpr ⟨lw_p49, List.forall_mem_cons.mpr ⟨lw_p50, List.forall_mem_cons.mpr ⟨lw_p51, List.forall_mem_cons.mpr ⟨lw_p52, List.forall_mem_cons.mpr ⟨lw_p53, List.forall_mem_cons.mpr ⟨lw_p54, List.forall_mem_cons.mpr ⟨lw_p55, List.forall_mem_cons.mpr ⟨lw_p56, List.forall_mem_cons.mpr ⟨lw_p57, List.forall_mem_cons.mpr ⟨lw_p58, List.forall_mem_cons.mpr ⟨lw_p59, List.forall_mem_cons.mpr ⟨lw_p60, List.forall_mem_cons.mpr ⟨lw_p61, List.forall_mem_cons.mpr ⟨lw_p62, List.forall_mem_cons.mpr ⟨lw_p63, fun _ h => absurd h List.not_mem_nil⟩⟩⟩⟩⟩⟩⟩⟩⟩⟩⟩⟩⟩⟩⟩⟩
theorem lw_p64 : lw_okq (⟨"UncomputeryModel$World", "isAtEnd", "()Z"⟩, 11) := ⟨⟨by decide +kernel, by decide +kernel⟩, List.mem_of_getElem? (i := 1401) (by decide +kernel), List.mem_of_getElem? (i := 2375) (by decide +kernel), List.mem_of_getElem? (i := 2376) (by decide +kernel)⟩
theorem lw_p65 : lw_okq (⟨"UncomputeryModel$World", "acts", "()Ljava/util/List;"⟩, 11) := ⟨⟨by decide +kernel, by decide +kernel⟩, List.mem_of_getElem? (i := 1401) (by decide +kernel), List.mem_of_getElem? (i := 2379) (by decide +kernel), List.mem_of_getElem? (i := 2380) (by decide +kernel)⟩
theorem lw_p66 : lw_okq (⟨"UncomputeryModel$World", "calls", "(IZI)Z"⟩, 11) := ⟨⟨by decide +kernel, by decide +kernel⟩, List.mem_of_getElem? (i := 1401) (by decide +kernel), List.mem_of_getElem? (i := 2396) (by decide +kernel), List.mem_of_getElem? (i := 2397) (by decide +kernel)⟩
theorem lw_p67 : lw_okq (⟨"UncomputeryModel$World", "breaks", "(CI)Z"⟩, 11) := ⟨⟨by decide +kernel, by decide +kernel⟩, List.mem_of_getElem? (i := 1401) (by decide +kernel), List.mem_of_getElem? (i := 2400) (by decide +kernel), List.mem_of_getElem? (i := 2401) (by decide +kernel)⟩
theorem lw_p68 : lw_okq (⟨"UncomputeryModel$World", "brackets", "(LUncomputeryModel$Act;IZ)Z"⟩, 11) := ⟨⟨by decide +kernel, by decide +kernel⟩, List.mem_of_getElem? (i := 1401) (by decide +kernel), List.mem_of_getElem? (i := 2405) (by decide +kernel), List.mem_of_getElem? (i := 2406) (by decide +kernel)⟩
theorem lw_p69 : lw_okq (⟨"UncomputeryModel$World", "goes", "(I)Z"⟩, 11) := ⟨⟨by decide +kernel, by decide +kernel⟩, List.mem_of_getElem? (i := 1401) (by decide +kernel), List.mem_of_getElem? (i := 2413) (by decide +kernel), List.mem_of_getElem? (i := 2414) (by decide +kernel)⟩
theorem lw_p70 : lw_okq (⟨"UncomputeryModel$World", "tests", "(LUncomputeryModel$Sum;ZI)Z"⟩, 11) := ⟨⟨by decide +kernel, by decide +kernel⟩, List.mem_of_getElem? (i := 1401) (by decide +kernel), List.mem_of_getElem? (i := 2417) (by decide +kernel), List.mem_of_getElem? (i := 2418) (by decide +kernel)⟩
theorem lw_p71 : lw_okq (⟨"UncomputeryModel$World", "changes", "(LUncomputeryModel$Part;Z)Z"⟩, 11) := ⟨⟨by decide +kernel, by decide +kernel⟩, List.mem_of_getElem? (i := 1401) (by decide +kernel), List.mem_of_getElem? (i := 2421) (by decide +kernel), List.mem_of_getElem? (i := 2422) (by decide +kernel)⟩
theorem lw_p72 : lw_okq (⟨"UncomputeryModel$World", "puts", "(I)Z"⟩, 11) := ⟨⟨by decide +kernel, by decide +kernel⟩, List.mem_of_getElem? (i := 1401) (by decide +kernel), List.mem_of_getElem? (i := 2429) (by decide +kernel), List.mem_of_getElem? (i := 2430) (by decide +kernel)⟩
theorem lw_p73 : lw_okq (⟨"UncomputeryModel$World", "takesOff", "(I)Z"⟩, 11) := ⟨⟨by decide +kernel, by decide +kernel⟩, List.mem_of_getElem? (i := 1401) (by decide +kernel), List.mem_of_getElem? (i := 2433) (by decide +kernel), List.mem_of_getElem? (i := 2434) (by decide +kernel)⟩
theorem lw_p74 : lw_okq (⟨"UncomputeryModel", "isNoRun", "()Z"⟩, 11) := ⟨⟨by decide +kernel, by decide +kernel⟩, List.mem_of_getElem? (i := 1366) (by decide +kernel), List.mem_of_getElem? (i := 2446) (by decide +kernel), List.mem_of_getElem? (i := 2447) (by decide +kernel)⟩
theorem lw_p75 : lw_okq (⟨"UncomputeryModel", "isNoCause", "(I)Z"⟩, 11) := ⟨⟨by decide +kernel, by decide +kernel⟩, List.mem_of_getElem? (i := 1366) (by decide +kernel), List.mem_of_getElem? (i := 2466) (by decide +kernel), List.mem_of_getElem? (i := 2467) (by decide +kernel)⟩
theorem lw_p76 : lw_okq (⟨"UncomputeryModel", "whole", "(LUncomputeryModel$World;IZ)I"⟩, 11) := ⟨⟨by decide +kernel, by decide +kernel⟩, List.mem_of_getElem? (i := 1366) (by decide +kernel), List.mem_of_getElem? (i := 2489) (by decide +kernel), List.mem_of_getElem? (i := 2490) (by decide +kernel)⟩
theorem lw_p77 : lw_okq (⟨"UncomputeryModel", "table", "(ICZ)I"⟩, 11) := ⟨⟨by decide +kernel, by decide +kernel⟩, List.mem_of_getElem? (i := 1366) (by decide +kernel), List.mem_of_getElem? (i := 2511) (by decide +kernel), List.mem_of_getElem? (i := 2512) (by decide +kernel)⟩
theorem lw_p78 : lw_okq (⟨"java/util/ArrayList", "fastRemove", "([Ljava/lang/Object;I)V"⟩, 3) := ⟨⟨by decide +kernel, by decide +kernel⟩, List.mem_of_getElem? (i := 1372) (by decide +kernel), List.mem_of_getElem? (i := 2567) (by decide +kernel), List.mem_of_getElem? (i := 2568) (by decide +kernel)⟩
theorem lw_p79 : lw_okq (⟨"UncomputeryModel", "goesThrough", "(I)I"⟩, 11) := ⟨⟨by decide +kernel, by decide +kernel⟩, List.mem_of_getElem? (i := 1366) (by decide +kernel), List.mem_of_getElem? (i := 2585) (by decide +kernel), List.mem_of_getElem? (i := 2586) (by decide +kernel)⟩
def lw_privs_5 : List (MethodName × Nat) := [(⟨"UncomputeryModel$World", "isAtEnd", "()Z"⟩, 11), (⟨"UncomputeryModel$World", "acts", "()Ljava/util/List;"⟩, 11), (⟨"UncomputeryModel$World", "calls", "(IZI)Z"⟩, 11), (⟨"UncomputeryModel$World", "breaks", "(CI)Z"⟩, 11), (⟨"UncomputeryModel$World", "brackets", "(LUncomputeryModel$Act;IZ)Z"⟩, 11), (⟨"UncomputeryModel$World", "goes", "(I)Z"⟩, 11), (⟨"UncomputeryModel$World", "tests", "(LUncomputeryModel$Sum;ZI)Z"⟩, 11), (⟨"UncomputeryModel$World", "changes", "(LUncomputeryModel$Part;Z)Z"⟩, 11), (⟨"UncomputeryModel$World", "puts", "(I)Z"⟩, 11), (⟨"UncomputeryModel$World", "takesOff", "(I)Z"⟩, 11), (⟨"UncomputeryModel", "isNoRun", "()Z"⟩, 11), (⟨"UncomputeryModel", "isNoCause", "(I)Z"⟩, 11), (⟨"UncomputeryModel", "whole", "(LUncomputeryModel$World;IZ)I"⟩, 11), (⟨"UncomputeryModel", "table", "(ICZ)I"⟩, 11), (⟨"java/util/ArrayList", "fastRemove", "([Ljava/lang/Object;I)V"⟩, 3), (⟨"UncomputeryModel", "goesThrough", "(I)I"⟩, 11)]
theorem lw_r5 : ∀ q ∈ lw_privs_5, lw_okq q := List.forall_mem_cons.mpr ⟨lw_p64, List.forall_mem_cons.mpr ⟨lw_p65, List.forall_mem_cons.mpr ⟨lw_p66, List.forall_mem_cons.mpr ⟨lw_p67, List.forall_mem_cons.mpr ⟨lw_p68, List.forall_mem_cons.mpr ⟨lw_p69, List.forall_mem_cons.mpr ⟨lw_p70, List.forall_mem_cons.mpr ⟨lw_p71, List.forall_mem_cons.mpr ⟨lw_p72, List.forall_mem_cons.mpr ⟨lw_p73, List.forall_mem_cons.mpr ⟨lw_p74, List.forall_mem_cons.mpr ⟨lw_p75, List.forall_mem_cons.mpr ⟨lw_p76, List.forall_mem_cons.mpr ⟨lw_p77, List.forall_mem_cons.mpr ⟨lw_p78, List.forall_mem_cons.mpr ⟨lw_p79, fun _ h => absurd h List.not_mem_nil⟩⟩⟩⟩⟩⟩⟩⟩⟩⟩⟩⟩⟩⟩⟩⟩
theorem lw_p80 : lw_okq (⟨"java/util/ArrayList", "rangeCheckForAdd", "(I)V"⟩, 3) := ⟨⟨by decide +kernel, by decide +kernel⟩, List.mem_of_getElem? (i := 1372) (by decide +kernel), List.mem_of_getElem? (i := 2609) (by decide +kernel), List.mem_of_getElem? (i := 2610) (by decide +kernel)⟩
theorem lw_p81 : lw_okq (⟨"java/util/ArrayList", "outOfBoundsMsg", "(I)Ljava/lang/String;"⟩, 3) := ⟨⟨by decide +kernel, by decide +kernel⟩, List.mem_of_getElem? (i := 1372) (by decide +kernel), List.mem_of_getElem? (i := 2614) (by decide +kernel), List.mem_of_getElem? (i := 2615) (by decide +kernel)⟩
theorem lw_p82 : lw_okq (⟨"UncomputeryModel", "likeOf", "(I)I"⟩, 11) := ⟨⟨by decide +kernel, by decide +kernel⟩, List.mem_of_getElem? (i := 1366) (by decide +kernel), List.mem_of_getElem? (i := 2658) (by decide +kernel), List.mem_of_getElem? (i := 2659) (by decide +kernel)⟩
theorem lw_p83 : lw_okq (⟨"UncomputeryModel", "makes", "()Ljava/util/List;"⟩, 11) := ⟨⟨by decide +kernel, by decide +kernel⟩, List.mem_of_getElem? (i := 1366) (by decide +kernel), List.mem_of_getElem? (i := 2669) (by decide +kernel), List.mem_of_getElem? (i := 2670) (by decide +kernel)⟩
theorem lw_p84 : lw_okq (⟨"UncomputeryModel", "packed", "()I"⟩, 11) := ⟨⟨by decide +kernel, by decide +kernel⟩, List.mem_of_getElem? (i := 1366) (by decide +kernel), List.mem_of_getElem? (i := 2685) (by decide +kernel), List.mem_of_getElem? (i := 2686) (by decide +kernel)⟩
theorem lw_p85 : lw_okq (⟨"UncomputeryModel", "adds", "(II)I"⟩, 11) := ⟨⟨by decide +kernel, by decide +kernel⟩, List.mem_of_getElem? (i := 1366) (by decide +kernel), List.mem_of_getElem? (i := 2699) (by decide +kernel), List.mem_of_getElem? (i := 2700) (by decide +kernel)⟩
theorem lw_p86 : lw_okq (⟨"UncomputeryModel", "isLeastOfCycle", "(I)Z"⟩, 11) := ⟨⟨by decide +kernel, by decide +kernel⟩, List.mem_of_getElem? (i := 1366) (by decide +kernel), List.mem_of_getElem? (i := 2707) (by decide +kernel), List.mem_of_getElem? (i := 2708) (by decide +kernel)⟩
theorem lw_p87 : lw_okq (⟨"UncomputeryModel", "cycleFrom", "(I)I"⟩, 11) := ⟨⟨by decide +kernel, by decide +kernel⟩, List.mem_of_getElem? (i := 1366) (by decide +kernel), List.mem_of_getElem? (i := 2715) (by decide +kernel), List.mem_of_getElem? (i := 2716) (by decide +kernel)⟩
theorem lw_p88 : lw_okq (⟨"UncomputeryModel", "comesFrom", "(I)I"⟩, 11) := ⟨⟨by decide +kernel, by decide +kernel⟩, List.mem_of_getElem? (i := 1366) (by decide +kernel), List.mem_of_getElem? (i := 2727) (by decide +kernel), List.mem_of_getElem? (i := 2728) (by decide +kernel)⟩
def lw_privs_6 : List (MethodName × Nat) := [(⟨"java/util/ArrayList", "rangeCheckForAdd", "(I)V"⟩, 3), (⟨"java/util/ArrayList", "outOfBoundsMsg", "(I)Ljava/lang/String;"⟩, 3), (⟨"UncomputeryModel", "likeOf", "(I)I"⟩, 11), (⟨"UncomputeryModel", "makes", "()Ljava/util/List;"⟩, 11), (⟨"UncomputeryModel", "packed", "()I"⟩, 11), (⟨"UncomputeryModel", "adds", "(II)I"⟩, 11), (⟨"UncomputeryModel", "isLeastOfCycle", "(I)Z"⟩, 11), (⟨"UncomputeryModel", "cycleFrom", "(I)I"⟩, 11), (⟨"UncomputeryModel", "comesFrom", "(I)I"⟩, 11)]
theorem lw_r6 : ∀ q ∈ lw_privs_6, lw_okq q := List.forall_mem_cons.mpr ⟨lw_p80, List.forall_mem_cons.mpr ⟨lw_p81, List.forall_mem_cons.mpr ⟨lw_p82, List.forall_mem_cons.mpr ⟨lw_p83, List.forall_mem_cons.mpr ⟨lw_p84, List.forall_mem_cons.mpr ⟨lw_p85, List.forall_mem_cons.mpr ⟨lw_p86, List.forall_mem_cons.mpr ⟨lw_p87, List.forall_mem_cons.mpr ⟨lw_p88, fun _ h => absurd h List.not_mem_nil⟩⟩⟩⟩⟩⟩⟩⟩⟩
def lw_privs : List (MethodName × Nat) := lw_privs_1 ++ (lw_privs_2 ++ (lw_privs_3 ++ (lw_privs_4 ++ (lw_privs_5 ++ (lw_privs_6)))))
def lw_tbl : List Cond := k2_sels lw_privs ++ tables_1
theorem lw_privs_ok : ∀ q ∈ lw_privs, lw_okq q := by
  show ∀ q ∈ lw_privs_1 ++ (lw_privs_2 ++ (lw_privs_3 ++ (lw_privs_4 ++ (lw_privs_5 ++ (lw_privs_6))))), lw_okq q
  exact List.forall_mem_append.mpr ⟨lw_r1, List.forall_mem_append.mpr ⟨lw_r2, List.forall_mem_append.mpr ⟨lw_r3, List.forall_mem_append.mpr ⟨lw_r4, List.forall_mem_append.mpr ⟨lw_r5, lw_r6⟩⟩⟩⟩⟩
/-- the streams that the claim lets the run draw from -/
abbrev lw_cs : List Choice := [Jvm.Choice.named "NaN.bits"]
theorem lw_bits : nanBits ∈ lw_cs := by first | decide | exact List.mem_cons_self | simp [lw_cs, nanBits]

/-! Uncomputery -/
def mj_R0 : String := "Uncomputery"
def mj_F0 : u_T := fun k => match k with
  | 0 => ("Uncomputery", "typed", "LUncomputery$Procedure;", true)
  | 1 => ("Uncomputery", "library", "LUncomputery$Library;", true)
  | 2 => ("Uncomputery", "once", "LUncomputery$Procedure;", true)
  | 3 => ("Uncomputery", "twice", "LUncomputery$Procedure;", true)
  | 4 => ("Uncomputery", "thrice", "LUncomputery$Text;", true)
  | 5 => ("Uncomputery", "store", "LUncomputery$Store;", true)
  | 6 => ("Uncomputery", "trial", "LUncomputery$Store;", true)
  | 7 => ("Uncomputery", "begun", "LUncomputery$Run;", true)
  | 8 => ("Uncomputery", "whole", "LUncomputery$Run;", true)
  | 9 => ("Uncomputery", "circuit", "LUncomputery$Circuit;", true)
  | 10 => ("Uncomputery", "gateSearch", "LUncomputery$GateSearch;", false)
  | 11 => ("Uncomputery", "pebbleLine", "LUncomputery$PebbleLine;", false)
  | 12 => ("Uncomputery", "images", "[I", true)
  | 13 => ("Uncomputery", "results", "[I", true)
  | 14 => ("Uncomputery", "tally", "[I", true)
  | 15 => ("Uncomputery", "stepsDone", "J", false)
  | _ => ("Uncomputery", "bitsErased", "J", false)
def mj_t0 : Nat → FieldType := fun k => match k with
  | 0 => .object "Uncomputery$Procedure"
  | 1 => .object "Uncomputery$Library"
  | 2 => .object "Uncomputery$Procedure"
  | 3 => .object "Uncomputery$Procedure"
  | 4 => .object "Uncomputery$Text"
  | 5 => .object "Uncomputery$Store"
  | 6 => .object "Uncomputery$Store"
  | 7 => .object "Uncomputery$Run"
  | 8 => .object "Uncomputery$Run"
  | 9 => .object "Uncomputery$Circuit"
  | 10 => .object "Uncomputery$GateSearch"
  | 11 => .object "Uncomputery$PebbleLine"
  | 12 => .array .int
  | 13 => .array .int
  | 14 => .array .int
  | 15 => .long
  | _ => .long
/-! Uncomputery Procedure -/
def mj_R1 : String := "Uncomputery$Procedure"
def mj_F1 : u_T := fun k => match k with
  | 0 => ("Uncomputery$Procedure", "text", "LUncomputery$Text;", true)
  | 1 => ("Uncomputery$Procedure", "code", "LUncomputery$Code;", true)
  | _ => ("Uncomputery$Procedure", "reader", "LUncomputery$Reader;", true)
def mj_t1 : Nat → FieldType := fun k => match k with
  | 0 => .object "Uncomputery$Text"
  | 1 => .object "Uncomputery$Code"
  | _ => .object "Uncomputery$Reader"
/-! Uncomputery Text -/
def mj_R2 : String := "Uncomputery$Text"
def mj_F2 : u_T := fun k => match k with
  | 0 => ("Uncomputery$Text", "signs", "[C", true)
  | _ => ("Uncomputery$Text", "filled", "I", false)
def mj_t2 : Nat → FieldType := fun k => match k with
  | 0 => .array .char
  | _ => .int
/-! Uncomputery Code -/
def mj_R3 : String := "Uncomputery$Code"
def mj_F3 : u_T := fun k => match k with
  | 0 => ("Uncomputery$Code", "row", "[LUncomputery$Instruction;", true)
  | 1 => ("Uncomputery$Code", "none", "LUncomputery$Instruction;", true)
  | _ => ("Uncomputery$Code", "filled", "I", false)
def mj_t3 : Nat → FieldType := fun k => match k with
  | 0 => .array (.object "Uncomputery$Instruction")
  | 1 => .object "Uncomputery$Instruction"
  | _ => .int
/-! Uncomputery Instruction -/
def mj_R4 : String := "Uncomputery$Instruction"
def mj_F4 : u_T := fun k => match k with
  | 0 => ("Uncomputery$Instruction", "sign", "C", false)
  | 1 => ("Uncomputery$Instruction", "target", "I", false)
  | 2 => ("Uncomputery$Instruction", "first", "I", false)
  | 3 => ("Uncomputery$Instruction", "operator", "C", false)
  | 4 => ("Uncomputery$Instruction", "second", "I", false)
  | 5 => ("Uncomputery$Instruction", "open", "I", false)
  | 6 => ("Uncomputery$Instruction", "middle", "I", false)
  | _ => ("Uncomputery$Instruction", "close", "I", false)
def mj_t4 : Nat → FieldType := fun k => match k with
  | 0 => .char
  | 1 => .int
  | 2 => .int
  | 3 => .char
  | 4 => .int
  | 5 => .int
  | 6 => .int
  | _ => .int
/-! Uncomputery Reader -/
def mj_R5 : String := "Uncomputery$Reader"
def mj_F5 : u_T := fun k => match k with
  | 0 => ("Uncomputery$Reader", "text", "LUncomputery$Text;", true)
  | 1 => ("Uncomputery$Reader", "code", "LUncomputery$Code;", true)
  | 2 => ("Uncomputery$Reader", "at", "I", false)
  | 3 => ("Uncomputery$Reader", "faultAt", "I", false)
  | 4 => ("Uncomputery$Reader", "faultSign", "C", false)
  | _ => ("Uncomputery$Reader", "term", "I", false)
def mj_t5 : Nat → FieldType := fun k => match k with
  | 0 => .object "Uncomputery$Text"
  | 1 => .object "Uncomputery$Code"
  | 2 => .int
  | 3 => .int
  | 4 => .char
  | _ => .int
/-! Uncomputery Library -/
def mj_R6 : String := "Uncomputery$Library"
def mj_F6 : u_T := fun k => match k with
  | 0 => ("Uncomputery$Library", "rows", "[LUncomputery$Procedure;", true)
  | 1 => ("Uncomputery$Library", "none", "LUncomputery$Procedure;", true)
  | _ => ("Uncomputery$Library", "filled", "I", false)
def mj_t6 : Nat → FieldType := fun k => match k with
  | 0 => .array (.object "Uncomputery$Procedure")
  | 1 => .object "Uncomputery$Procedure"
  | _ => .int
/-! Uncomputery Store -/
def mj_R7 : String := "Uncomputery$Store"
def mj_F7 : u_T := fun k => match k with
  | 0 => ("Uncomputery$Store", "values", "[I", true)
  | 1 => ("Uncomputery$Store", "stack", "[I", true)
  | _ => ("Uncomputery$Store", "filled", "I", false)
def mj_t7 : Nat → FieldType := fun k => match k with
  | 0 => .array .int
  | 1 => .array .int
  | _ => .int
/-! Uncomputery Run -/
def mj_R8 : String := "Uncomputery$Run"
def mj_F8 : u_T := fun k => match k with
  | 0 => ("Uncomputery$Run", "library", "LUncomputery$Library;", true)
  | 1 => ("Uncomputery$Run", "store", "LUncomputery$Store;", true)
  | 2 => ("Uncomputery$Run", "callers", "[I", true)
  | 3 => ("Uncomputery$Run", "callPlaces", "[I", true)
  | 4 => ("Uncomputery$Run", "callWays", "[Z", true)
  | 5 => ("Uncomputery$Run", "letters", "[C", true)
  | 6 => ("Uncomputery$Run", "numbers", "[I", true)
  | 7 => ("Uncomputery$Run", "causes", "I", false)
  | 8 => ("Uncomputery$Run", "isBegun", "Z", false)
  | 9 => ("Uncomputery$Run", "procedure", "I", false)
  | 10 => ("Uncomputery$Run", "place", "I", false)
  | 11 => ("Uncomputery$Run", "calls", "I", false)
  | _ => ("Uncomputery$Run", "goesAhead", "Z", false)
def mj_t8 : Nat → FieldType := fun k => match k with
  | 0 => .object "Uncomputery$Library"
  | 1 => .object "Uncomputery$Store"
  | 2 => .array .int
  | 3 => .array .int
  | 4 => .array .boolean
  | 5 => .array .char
  | 6 => .array .int
  | 7 => .int
  | 8 => .boolean
  | 9 => .int
  | 10 => .int
  | 11 => .int
  | _ => .boolean
/-! Uncomputery Circuit -/
def mj_R9 : String := "Uncomputery$Circuit"
def mj_F9 : u_T := fun k => match k with
  | 0 => ("Uncomputery$Circuit", "row", "[I", true)
  | 1 => ("Uncomputery$Circuit", "outputs", "[I", true)
  | 2 => ("Uncomputery$Circuit", "madeRow", "[I", true)
  | 3 => ("Uncomputery$Circuit", "filled", "I", false)
  | _ => ("Uncomputery$Circuit", "madeFilled", "I", false)
def mj_t9 : Nat → FieldType := fun k => match k with
  | 0 => .array .int
  | 1 => .array .int
  | 2 => .array .int
  | 3 => .int
  | _ => .int
/-! Uncomputery GateSearch -/
def mj_R10 : String := "Uncomputery$GateSearch"
def mj_F10 : u_T := fun k => match k with
  | _ => ("Uncomputery$GateSearch", "slots", "[I", true)
def mj_t10 : Nat → FieldType := fun k => match k with
  | _ => .array .int
/-! java/lang/IllegalStateException -/
def mj_R11 : String := "java/lang/IllegalStateException"
def mj_F11 : u_T := fun k => match k with
  | _ => ("", "", "", false)
def mj_t11 : Nat → FieldType := fun k => match k with
  | _ => .int
/-! java/util/NoSuchElementException -/
def mj_R12 : String := "java/util/NoSuchElementException"
def mj_F12 : u_T := fun k => match k with
  | _ => ("", "", "", false)
def mj_t12 : Nat → FieldType := fun k => match k with
  | _ => .int
/-! java/lang/IllegalArgumentException -/
def mj_R13 : String := "java/lang/IllegalArgumentException"
def mj_F13 : u_T := fun k => match k with
  | _ => ("", "", "", false)
def mj_t13 : Nat → FieldType := fun k => match k with
  | _ => .int
/-! java/lang/IndexOutOfBoundsException -/
def mj_R14 : String := "java/lang/IndexOutOfBoundsException"
def mj_F14 : u_T := fun k => match k with
  | _ => ("", "", "", false)
def mj_t14 : Nat → FieldType := fun k => match k with
  | _ => .int
/-! java/lang/UnsupportedOperationException -/
def mj_R15 : String := "java/lang/UnsupportedOperationException"
def mj_F15 : u_T := fun k => match k with
  | _ => ("", "", "", false)
def mj_t15 : Nat → FieldType := fun k => match k with
  | _ => .int
/-! Uncomputery PebbleLine -/
def mj_R16 : String := "Uncomputery$PebbleLine"
def mj_F16 : u_T := fun k => match k with
  | 0 => ("Uncomputery$PebbleLine", "moves", "[I", true)
  | 1 => ("Uncomputery$PebbleLine", "waiting", "[I", true)
  | _ => ("Uncomputery$PebbleLine", "filled", "I", false)
def mj_t16 : Nat → FieldType := fun k => match k with
  | 0 => .array .int
  | 1 => .array .int
  | _ => .int
/-! UncomputeryModel -/
def mj_R17 : String := "UncomputeryModel"
def mj_F17 : u_T := fun k => match k with
  | 0 => ("UncomputeryModel", "thrown", "I", false)
  | 1 => ("UncomputeryModel", "procedures", "Ljava/util/List;", true)
  | 2 => ("UncomputeryModel", "world", "LUncomputeryModel$World;", true)
  | 3 => ("UncomputeryModel", "typed", "Ljava/lang/String;", false)
  | 4 => ("UncomputeryModel", "steps", "J", false)
  | 5 => ("UncomputeryModel", "erased", "J", false)
  | 6 => ("UncomputeryModel", "gates", "Ljava/util/List;", true)
  | 7 => ("UncomputeryModel", "was", "[Z", false)
  | 8 => ("UncomputeryModel", "now", "[I", false)
  | 9 => ("UncomputeryModel", "next", "[I", false)
  | _ => ("UncomputeryModel", "images", "[I", true)
def mj_t17 : Nat → FieldType := fun k => match k with
  | 0 => .int
  | 1 => .object "java/util/List"
  | 2 => .object "UncomputeryModel$World"
  | 3 => .object "java/lang/String"
  | 4 => .long
  | 5 => .long
  | 6 => .object "java/util/List"
  | 7 => .array .boolean
  | 8 => .array .int
  | 9 => .array .int
  | _ => .array .int
/-! java/util/ArrayList -/
def mj_R18 : String := "java/util/ArrayList"
def mj_F18 : u_T := fun k => match k with
  | 0 => ("java/util/ArrayList", "elementData", "[Ljava/lang/Object;", false)
  | 1 => ("java/util/ArrayList", "size", "I", false)
  | _ => ("java/util/AbstractList", "modCount", "I", false)
def mj_t18 : Nat → FieldType := fun k => match k with
  | 0 => .array (.object "java/lang/Object")
  | 1 => .int
  | _ => .int
/-! UncomputeryModel World -/
def mj_R19 : String := "UncomputeryModel$World"
def mj_F19 : u_T := fun k => match k with
  | 0 => ("UncomputeryModel$World", "row", "[I", true)
  | 1 => ("UncomputeryModel$World", "stack", "[I", true)
  | 2 => ("UncomputeryModel$World", "inside", "[I", true)
  | 3 => ("UncomputeryModel$World", "places", "[I", true)
  | 4 => ("UncomputeryModel$World", "ways", "[Z", true)
  | 5 => ("UncomputeryModel$World", "why", "[C", true)
  | 6 => ("UncomputeryModel$World", "whyNumbers", "[I", true)
  | 7 => ("UncomputeryModel$World", "stacked", "I", false)
  | 8 => ("UncomputeryModel$World", "depth", "I", false)
  | 9 => ("UncomputeryModel$World", "causes", "I", false)
  | _ => ("UncomputeryModel$World", "this$0", "LUncomputeryModel;", true)
def mj_t19 : Nat → FieldType := fun k => match k with
  | 0 => .array .int
  | 1 => .array .int
  | 2 => .array .int
  | 3 => .array .int
  | 4 => .array .boolean
  | 5 => .array .char
  | 6 => .array .int
  | 7 => .int
  | 8 => .int
  | 9 => .int
  | _ => .object "UncomputeryModel"
/-! java/lang/StringBuilder -/
def mj_R20 : String := "java/lang/StringBuilder"
def mj_F20 : u_T := fun k => match k with
  | 0 => ("java/lang/AbstractStringBuilder", "value", "[B", false)
  | 1 => ("java/lang/AbstractStringBuilder", "coder", "B", false)
  | 2 => ("java/lang/AbstractStringBuilder", "maybeLatin1", "Z", false)
  | _ => ("java/lang/AbstractStringBuilder", "count", "I", false)
def mj_t20 : Nat → FieldType := fun k => match k with
  | 0 => .array .byte
  | 1 => .byte
  | 2 => .boolean
  | _ => .int
/-! java/lang/String -/
def mj_R21 : String := "java/lang/String"
def mj_F21 : u_T := fun k => match k with
  | 0 => ("java/lang/String", "value", "[B", true)
  | 1 => ("java/lang/String", "coder", "B", true)
  | 2 => ("java/lang/String", "hash", "I", false)
  | _ => ("java/lang/String", "hashIsZero", "Z", false)
def mj_t21 : Nat → FieldType := fun k => match k with
  | 0 => .array .byte
  | 1 => .byte
  | 2 => .int
  | _ => .boolean
/-! UncomputeryModel Reader -/
def mj_R22 : String := "UncomputeryModel$Reader"
def mj_F22 : u_T := fun k => match k with
  | 0 => ("UncomputeryModel$Reader", "text", "Ljava/lang/String;", true)
  | 1 => ("UncomputeryModel$Reader", "at", "I", false)
  | _ => ("UncomputeryModel$Reader", "open", "I", false)
def mj_t22 : Nat → FieldType := fun k => match k with
  | 0 => .object "java/lang/String"
  | 1 => .int
  | _ => .int
/-! UncomputeryModel Fault -/
def mj_R23 : String := "UncomputeryModel$Fault"
def mj_F23 : u_T := fun k => match k with
  | 0 => ("UncomputeryModel$Fault", "place", "I", true)
  | _ => ("UncomputeryModel$Fault", "kind", "C", true)
def mj_t23 : Nat → FieldType := fun k => match k with
  | 0 => .int
  | _ => .char
/-! UncomputeryModel Part -/
def mj_R24 : String := "UncomputeryModel$Part"
def mj_F24 : u_T := fun k => match k with
  | 0 => ("UncomputeryModel$Part", "sign", "C", true)
  | 1 => ("UncomputeryModel$Part", "first", "I", false)
  | 2 => ("UncomputeryModel$Part", "second", "I", false)
  | 3 => ("UncomputeryModel$Part", "sum", "LUncomputeryModel$Sum;", false)
  | 4 => ("UncomputeryModel$Part", "from", "LUncomputeryModel$Sum;", false)
  | 5 => ("UncomputeryModel$Part", "to", "LUncomputeryModel$Sum;", false)
  | 6 => ("UncomputeryModel$Part", "one", "Ljava/util/List;", false)
  | _ => ("UncomputeryModel$Part", "other", "Ljava/util/List;", false)
def mj_t24 : Nat → FieldType := fun k => match k with
  | 0 => .char
  | 1 => .int
  | 2 => .int
  | 3 => .object "UncomputeryModel$Sum"
  | 4 => .object "UncomputeryModel$Sum"
  | 5 => .object "UncomputeryModel$Sum"
  | 6 => .object "java/util/List"
  | _ => .object "java/util/List"
/-! UncomputeryModel Sum -/
def mj_R25 : String := "UncomputeryModel$Sum"
def mj_F25 : u_T := fun k => match k with
  | 0 => ("UncomputeryModel$Sum", "variables", "[I", true)
  | 1 => ("UncomputeryModel$Sum", "numbers", "[I", true)
  | 2 => ("UncomputeryModel$Sum", "sign", "C", false)
  | _ => ("UncomputeryModel$Sum", "terms", "I", false)
def mj_t25 : Nat → FieldType := fun k => match k with
  | 0 => .array .int
  | 1 => .array .int
  | 2 => .char
  | _ => .int
/-! UncomputeryModel Procedure -/
def mj_R26 : String := "UncomputeryModel$Procedure"
def mj_F26 : u_T := fun k => match k with
  | 0 => ("UncomputeryModel$Procedure", "row", "Ljava/util/List;", true)
  | 1 => ("UncomputeryModel$Procedure", "text", "Ljava/lang/String;", true)
  | _ => ("UncomputeryModel$Procedure", "acts", "Ljava/util/List;", true)
def mj_t26 : Nat → FieldType := fun k => match k with
  | 0 => .object "java/util/List"
  | 1 => .object "java/lang/String"
  | _ => .object "java/util/List"
/-! java/util/ArrayList Itr -/
def mj_R27 : String := "java/util/ArrayList$Itr"
def mj_F27 : u_T := fun k => match k with
  | 0 => ("java/util/ArrayList$Itr", "cursor", "I", false)
  | 1 => ("java/util/ArrayList$Itr", "lastRet", "I", false)
  | 2 => ("java/util/ArrayList$Itr", "expectedModCount", "I", false)
  | _ => ("java/util/ArrayList$Itr", "this$0", "Ljava/util/ArrayList;", true)
def mj_t27 : Nat → FieldType := fun k => match k with
  | 0 => .int
  | 1 => .int
  | 2 => .int
  | _ => .object "java/util/ArrayList"
/-! UncomputeryModel Act -/
def mj_R28 : String := "UncomputeryModel$Act"
def mj_F28 : u_T := fun k => match k with
  | 0 => ("UncomputeryModel$Act", "sign", "C", true)
  | 1 => ("UncomputeryModel$Act", "part", "LUncomputeryModel$Part;", true)
  | 2 => ("UncomputeryModel$Act", "open", "I", false)
  | 3 => ("UncomputeryModel$Act", "middle", "I", false)
  | _ => ("UncomputeryModel$Act", "end", "I", false)
def mj_t28 : Nat → FieldType := fun k => match k with
  | 0 => .char
  | 1 => .object "UncomputeryModel$Part"
  | 2 => .int
  | 3 => .int
  | _ => .int
/-! java/lang/Integer -/
def mj_R29 : String := "java/lang/Integer"
def mj_F29 : u_T := fun k => match k with
  | _ => ("java/lang/Integer", "value", "I", true)
def mj_t29 : Nat → FieldType := fun k => match k with
  | _ => .int
def mj_cls : List vw_C := [(mj_R0, mj_F0, 17), (mj_R1, mj_F1, 3), (mj_R2, mj_F2, 2), (mj_R3, mj_F3, 3), (mj_R4, mj_F4, 8), (mj_R5, mj_F5, 6), (mj_R6, mj_F6, 3), (mj_R7, mj_F7, 3), (mj_R8, mj_F8, 13), (mj_R9, mj_F9, 5), (mj_R10, mj_F10, 1), (mj_R11, mj_F11, 0), (mj_R12, mj_F12, 0), (mj_R13, mj_F13, 0), (mj_R14, mj_F14, 0), (mj_R15, mj_F15, 0), (mj_R16, mj_F16, 3), (mj_R17, mj_F17, 11), (mj_R18, mj_F18, 3), (mj_R19, mj_F19, 11), (mj_R20, mj_F20, 4), (mj_R21, mj_F21, 4), (mj_R22, mj_F22, 3), (mj_R23, mj_F23, 2), (mj_R24, mj_F24, 8), (mj_R25, mj_F25, 4), (mj_R26, mj_F26, 3), (mj_R27, mj_F27, 4), (mj_R28, mj_F28, 5), (mj_R29, mj_F29, 1)]
/-- the types of a class, how many fields it has, the slots that an object of it takes -/
def mj_cty (ci : Nat) : Nat → FieldType := match ci with
  | 0 => mj_t0
  | 1 => mj_t1
  | 2 => mj_t2
  | 3 => mj_t3
  | 4 => mj_t4
  | 5 => mj_t5
  | 6 => mj_t6
  | 7 => mj_t7
  | 8 => mj_t8
  | 9 => mj_t9
  | 10 => mj_t10
  | 11 => mj_t11
  | 12 => mj_t12
  | 13 => mj_t13
  | 14 => mj_t14
  | 15 => mj_t15
  | 16 => mj_t16
  | 17 => mj_t17
  | 18 => mj_t18
  | 19 => mj_t19
  | 20 => mj_t20
  | 21 => mj_t21
  | 22 => mj_t22
  | 23 => mj_t23
  | 24 => mj_t24
  | 25 => mj_t25
  | 26 => mj_t26
  | 27 => mj_t27
  | 28 => mj_t28
  | _ => mj_t29
def mj_csl : List Nat := [17, 3, 2, 3, 8, 6, 3, 3, 13, 5, 1, 6, 6, 6, 6, 6, 3, 11, 3, 11, 4, 4, 3, 8, 8, 4, 3, 4, 5, 1]
/-- the fields of a new object -/
def mj_dfl : List (List Value) := [[.null, .null, .null, .null, .null, .null, .null, .null, .null, .null, .null, .null, .null, .null, .null, .long 0, .long 0], [.null, .null, .null], [.null, .int 0], [.null, .null, .int 0], [.int 0, .int 0, .int 0, .int 0, .int 0, .int 0, .int 0, .int 0], [.null, .null, .int 0, .int 0, .int 0, .int 0], [.null, .null, .int 0], [.null, .null, .int 0], [.null, .null, .null, .null, .null, .null, .null, .int 0, .int 0, .int 0, .int 0, .int 0, .int 0], [.null, .null, .null, .int 0, .int 0], [.null], [], [], [], [], [], [.null, .null, .int 0], [.int 0, .null, .null, .null, .long 0, .long 0, .null, .null, .null, .null, .null], [.null, .int 0, .int 0], [.null, .null, .null, .null, .null, .null, .null, .int 0, .int 0, .int 0, .null], [.null, .int 0, .int 0, .int 0], [.null, .int 0, .int 0, .int 0], [.null, .int 0, .int 0], [.int 0, .int 0], [.int 0, .int 0, .int 0, .null, .null, .null, .null, .null], [.null, .null, .int 0, .int 0], [.null, .null, .null], [.int 0, .int 0, .int 0, .null], [.int 0, .null, .int 0, .int 0, .int 0], [.int 0]]
/-- the kinds of arrays -/
def mj_tyl : List FieldType := [.int, .byte, .boolean, .char, .long, .double, .object "java/lang/Object", .object "Uncomputery$Instruction", .object "Uncomputery$Procedure", .object "UncomputeryModel$Act", .object "java/lang/Integer"]
