section
-- ===== PART A: goes FIRST, ahead of the names: the tables' words, and 'selects' of the private methods out of them =====
/-- a private method of a class that the tables say can be made, by its rows of tables_1 -/
def lw_okq (q : MethodName × Nat) : Prop := (q.1.cls ≠ "java/lang/invoke/MethodHandle" ∧ q.1.cls ≠ "java/lang/invoke/VarHandle") ∧ Cond.instantiable q.1.cls q.2 ∈ tables_1 ∧ Cond.privateMethod q.1 ∈ tables_1 ∧ Cond.instanceMethod q.1 ∈ tables_1
theorem lw_p0 : lw_okq (⟨"PackedGraph$Reader", "readValue", "(LPackedGraph$ByteRow;LPackedGraph$Values;I)I"⟩, 5) := ⟨⟨by decide +kernel, by decide +kernel⟩, List.mem_of_getElem? (i := 103) (by decide +kernel), List.mem_of_getElem? (i := 211) (by decide +kernel), List.mem_of_getElem? (i := 212) (by decide +kernel)⟩
theorem lw_p1 : lw_okq (⟨"PackedGraph$Reader", "refuse", "(II)I"⟩, 5) := ⟨⟨by decide +kernel, by decide +kernel⟩, List.mem_of_getElem? (i := 103) (by decide +kernel), List.mem_of_getElem? (i := 219) (by decide +kernel), List.mem_of_getElem? (i := 220) (by decide +kernel)⟩
theorem lw_p2 : lw_okq (⟨"PackedGraph$Lead", "take", "(IIJ)V"⟩, 4) := ⟨⟨by decide +kernel, by decide +kernel⟩, List.mem_of_getElem? (i := 109) (by decide +kernel), List.mem_of_getElem? (i := 231) (by decide +kernel), List.mem_of_getElem? (i := 232) (by decide +kernel)⟩
theorem lw_p3 : lw_okq (⟨"PackedGraph$Lead", "lookUp", "(LPackedGraph$ByteRow;II)V"⟩, 4) := ⟨⟨by decide +kernel, by decide +kernel⟩, List.mem_of_getElem? (i := 109) (by decide +kernel), List.mem_of_getElem? (i := 235) (by decide +kernel), List.mem_of_getElem? (i := 236) (by decide +kernel)⟩
theorem lw_p4 : lw_okq (⟨"PackedGraph$Lead", "lookAtType", "(LPackedGraph$ByteRow;I)V"⟩, 4) := ⟨⟨by decide +kernel, by decide +kernel⟩, List.mem_of_getElem? (i := 109) (by decide +kernel), List.mem_of_getElem? (i := 251) (by decide +kernel), List.mem_of_getElem? (i := 252) (by decide +kernel)⟩
theorem lw_p5 : lw_okq (⟨"PackedGraph$Reader", "readGroup", "(LPackedGraph$ByteRow;LPackedGraph$Values;II)I"⟩, 5) := ⟨⟨by decide +kernel, by decide +kernel⟩, List.mem_of_getElem? (i := 103) (by decide +kernel), List.mem_of_getElem? (i := 263) (by decide +kernel), List.mem_of_getElem? (i := 264) (by decide +kernel)⟩
theorem lw_p6 : lw_okq (⟨"java/util/ArrayList", "add", "(Ljava/lang/Object;[Ljava/lang/Object;I)V"⟩, 3) := ⟨⟨by decide +kernel, by decide +kernel⟩, List.mem_of_getElem? (i := 63) (by decide +kernel), List.mem_of_getElem? (i := 338) (by decide +kernel), List.mem_of_getElem? (i := 339) (by decide +kernel)⟩
theorem lw_p7 : lw_okq (⟨"java/util/ArrayList", "grow", "()[Ljava/lang/Object;"⟩, 3) := ⟨⟨by decide +kernel, by decide +kernel⟩, List.mem_of_getElem? (i := 63) (by decide +kernel), List.mem_of_getElem? (i := 342) (by decide +kernel), List.mem_of_getElem? (i := 343) (by decide +kernel)⟩
theorem lw_p8 : lw_okq (⟨"java/util/ArrayList", "grow", "(I)[Ljava/lang/Object;"⟩, 3) := ⟨⟨by decide +kernel, by decide +kernel⟩, List.mem_of_getElem? (i := 63) (by decide +kernel), List.mem_of_getElem? (i := 346) (by decide +kernel), List.mem_of_getElem? (i := 347) (by decide +kernel)⟩
theorem lw_p9 : lw_okq (⟨"PackedGraph$Reader", "readRow", "(LPackedGraph$ByteRow;LPackedGraph$Values;I)I"⟩, 5) := ⟨⟨by decide +kernel, by decide +kernel⟩, List.mem_of_getElem? (i := 103) (by decide +kernel), List.mem_of_getElem? (i := 431) (by decide +kernel), List.mem_of_getElem? (i := 432) (by decide +kernel)⟩
theorem lw_p10 : lw_okq (⟨"java/lang/Throwable", "fillInStackTrace", "(I)Ljava/lang/Throwable;"⟩, 6) := ⟨⟨by decide +kernel, by decide +kernel⟩, List.mem_of_getElem? (i := 506) (by decide +kernel), List.mem_of_getElem? (i := 504) (by decide +kernel), List.mem_of_getElem? (i := 505) (by decide +kernel)⟩
theorem lw_p11 : lw_okq (⟨"PackedGraph$Reader", "readTime", "(LPackedGraph$ByteRow;LPackedGraph$Values;I)I"⟩, 5) := ⟨⟨by decide +kernel, by decide +kernel⟩, List.mem_of_getElem? (i := 103) (by decide +kernel), List.mem_of_getElem? (i := 747) (by decide +kernel), List.mem_of_getElem? (i := 748) (by decide +kernel)⟩
theorem lw_p12 : lw_okq (⟨"PackedGraph$Reader", "keepPlain", "(LPackedGraph$Values;IIJI)I"⟩, 5) := ⟨⟨by decide +kernel, by decide +kernel⟩, List.mem_of_getElem? (i := 103) (by decide +kernel), List.mem_of_getElem? (i := 757) (by decide +kernel), List.mem_of_getElem? (i := 758) (by decide +kernel)⟩
theorem lw_p13 : lw_okq (⟨"PackedGraph$Reader", "readReference", "(LPackedGraph$ByteRow;I)I"⟩, 5) := ⟨⟨by decide +kernel, by decide +kernel⟩, List.mem_of_getElem? (i := 103) (by decide +kernel), List.mem_of_getElem? (i := 761) (by decide +kernel), List.mem_of_getElem? (i := 762) (by decide +kernel)⟩
theorem lw_p14 : lw_okq (⟨"PackedGraph$Reader", "readInteger", "(LPackedGraph$ByteRow;I)J"⟩, 5) := ⟨⟨by decide +kernel, by decide +kernel⟩, List.mem_of_getElem? (i := 103) (by decide +kernel), List.mem_of_getElem? (i := 765) (by decide +kernel), List.mem_of_getElem? (i := 766) (by decide +kernel)⟩
theorem lw_p15 : lw_okq (⟨"PackedGraph$Reader", "readPlain", "(LPackedGraph$ByteRow;LPackedGraph$Values;I)I"⟩, 5) := ⟨⟨by decide +kernel, by decide +kernel⟩, List.mem_of_getElem? (i := 103) (by decide +kernel), List.mem_of_getElem? (i := 773) (by decide +kernel), List.mem_of_getElem? (i := 774) (by decide +kernel)⟩
def lw_privs_1 : List (MethodName × Nat) := [(⟨"PackedGraph$Reader", "readValue", "(LPackedGraph$ByteRow;LPackedGraph$Values;I)I"⟩, 5), (⟨"PackedGraph$Reader", "refuse", "(II)I"⟩, 5), (⟨"PackedGraph$Lead", "take", "(IIJ)V"⟩, 4), (⟨"PackedGraph$Lead", "lookUp", "(LPackedGraph$ByteRow;II)V"⟩, 4), (⟨"PackedGraph$Lead", "lookAtType", "(LPackedGraph$ByteRow;I)V"⟩, 4), (⟨"PackedGraph$Reader", "readGroup", "(LPackedGraph$ByteRow;LPackedGraph$Values;II)I"⟩, 5), (⟨"java/util/ArrayList", "add", "(Ljava/lang/Object;[Ljava/lang/Object;I)V"⟩, 3), (⟨"java/util/ArrayList", "grow", "()[Ljava/lang/Object;"⟩, 3), (⟨"java/util/ArrayList", "grow", "(I)[Ljava/lang/Object;"⟩, 3), (⟨"PackedGraph$Reader", "readRow", "(LPackedGraph$ByteRow;LPackedGraph$Values;I)I"⟩, 5), (⟨"java/lang/Throwable", "fillInStackTrace", "(I)Ljava/lang/Throwable;"⟩, 6), (⟨"PackedGraph$Reader", "readTime", "(LPackedGraph$ByteRow;LPackedGraph$Values;I)I"⟩, 5), (⟨"PackedGraph$Reader", "keepPlain", "(LPackedGraph$Values;IIJI)I"⟩, 5), (⟨"PackedGraph$Reader", "readReference", "(LPackedGraph$ByteRow;I)I"⟩, 5), (⟨"PackedGraph$Reader", "readInteger", "(LPackedGraph$ByteRow;I)J"⟩, 5), (⟨"PackedGraph$Reader", "readPlain", "(LPackedGraph$ByteRow;LPackedGraph$Values;I)I"⟩, 5)]
theorem lw_r1 : ∀ q ∈ lw_privs_1, lw_okq q := List.forall_mem_cons.mpr ⟨lw_p0, List.forall_mem_cons.mpr ⟨lw_p1, List.forall_mem_cons.mpr ⟨lw_p2, List.forall_mem_cons.mpr ⟨lw_p3, List.forall_mem_cons.mpr ⟨lw_p4, List.forall_mem_cons.mpr ⟨lw_p5, List.forall_mem_cons.mpr ⟨lw_p6, List.forall_mem_cons.mpr ⟨lw_p7, List.forall_mem_cons.mpr ⟨lw_p8, List.forall_mem_cons.mpr ⟨lw_p9, List.forall_mem_cons.mpr ⟨lw_p10, List.forall_mem_cons.mpr ⟨lw_p11, List.forall_mem_cons.mpr ⟨lw_p12, List.forall_mem_cons.mpr ⟨lw_p13, List.forall_mem_cons.mpr ⟨lw_p14, List.forall_mem_cons.mpr ⟨lw_p15, fun _ h => absurd h List.not_mem_nil⟩⟩⟩⟩⟩⟩⟩⟩⟩⟩⟩⟩⟩⟩⟩⟩
theorem lw_p16 : lw_okq (⟨"java/util/ArrayList", "fastRemove", "([Ljava/lang/Object;I)V"⟩, 3) := ⟨⟨by decide +kernel, by decide +kernel⟩, List.mem_of_getElem? (i := 63) (by decide +kernel), List.mem_of_getElem? (i := 785) (by decide +kernel), List.mem_of_getElem? (i := 786) (by decide +kernel)⟩
theorem lw_p17 : lw_okq (⟨"PackedGraph$ByteRow", "grow", "(I)V"⟩, 2) := ⟨⟨by decide +kernel, by decide +kernel⟩, List.mem_of_getElem? (i := 43) (by decide +kernel), List.mem_of_getElem? (i := 834) (by decide +kernel), List.mem_of_getElem? (i := 835) (by decide +kernel)⟩
theorem lw_p18 : lw_okq (⟨"PackedGraph", "needValue", "(I)V"⟩, 6) := ⟨⟨by decide +kernel, by decide +kernel⟩, List.mem_of_getElem? (i := 35) (by decide +kernel), List.mem_of_getElem? (i := 911) (by decide +kernel), List.mem_of_getElem? (i := 912) (by decide +kernel)⟩
theorem lw_p19 : lw_okq (⟨"PackedGraph$Packer", "writeValue", "(LPackedGraph$Values;LPackedGraph$Value;I)V"⟩, 4) := ⟨⟨by decide +kernel, by decide +kernel⟩, List.mem_of_getElem? (i := 152) (by decide +kernel), List.mem_of_getElem? (i := 926) (by decide +kernel), List.mem_of_getElem? (i := 927) (by decide +kernel)⟩
theorem lw_p20 : lw_okq (⟨"PackedGraph$Packer", "writeReference", "(I)V"⟩, 4) := ⟨⟨by decide +kernel, by decide +kernel⟩, List.mem_of_getElem? (i := 152) (by decide +kernel), List.mem_of_getElem? (i := 930) (by decide +kernel), List.mem_of_getElem? (i := 931) (by decide +kernel)⟩
theorem lw_p21 : lw_okq (⟨"PackedGraph$Packer", "writeHead", "(III)V"⟩, 4) := ⟨⟨by decide +kernel, by decide +kernel⟩, List.mem_of_getElem? (i := 152) (by decide +kernel), List.mem_of_getElem? (i := 943) (by decide +kernel), List.mem_of_getElem? (i := 944) (by decide +kernel)⟩
theorem lw_p22 : lw_okq (⟨"PackedGraph$Packer", "writeBytes", "(JI)V"⟩, 4) := ⟨⟨by decide +kernel, by decide +kernel⟩, List.mem_of_getElem? (i := 152) (by decide +kernel), List.mem_of_getElem? (i := 947) (by decide +kernel), List.mem_of_getElem? (i := 948) (by decide +kernel)⟩
theorem lw_p23 : lw_okq (⟨"PackedGraph$Packer", "fits", "(I)Z"⟩, 4) := ⟨⟨by decide +kernel, by decide +kernel⟩, List.mem_of_getElem? (i := 152) (by decide +kernel), List.mem_of_getElem? (i := 951) (by decide +kernel), List.mem_of_getElem? (i := 952) (by decide +kernel)⟩
theorem lw_p24 : lw_okq (⟨"PackedGraph$Packer", "writeInteger", "(JZ)V"⟩, 4) := ⟨⟨by decide +kernel, by decide +kernel⟩, List.mem_of_getElem? (i := 152) (by decide +kernel), List.mem_of_getElem? (i := 958) (by decide +kernel), List.mem_of_getElem? (i := 959) (by decide +kernel)⟩
theorem lw_p25 : lw_okq (⟨"PackedGraph$Packer", "writeTime", "(JI)V"⟩, 4) := ⟨⟨by decide +kernel, by decide +kernel⟩, List.mem_of_getElem? (i := 152) (by decide +kernel), List.mem_of_getElem? (i := 969) (by decide +kernel), List.mem_of_getElem? (i := 970) (by decide +kernel)⟩
theorem lw_p26 : lw_okq (⟨"PackedGraph$Packer", "beginGroup", "(LPackedGraph$Value;I)V"⟩, 4) := ⟨⟨by decide +kernel, by decide +kernel⟩, List.mem_of_getElem? (i := 152) (by decide +kernel), List.mem_of_getElem? (i := 973) (by decide +kernel), List.mem_of_getElem? (i := 974) (by decide +kernel)⟩
theorem lw_p27 : lw_okq (⟨"PackedGraph$Packer", "writeRow", "(LPackedGraph$Value;)V"⟩, 4) := ⟨⟨by decide +kernel, by decide +kernel⟩, List.mem_of_getElem? (i := 152) (by decide +kernel), List.mem_of_getElem? (i := 989) (by decide +kernel), List.mem_of_getElem? (i := 990) (by decide +kernel)⟩
theorem lw_p28 : lw_okq (⟨"PackedGraph", "needRoom", "(I)V"⟩, 6) := ⟨⟨by decide +kernel, by decide +kernel⟩, List.mem_of_getElem? (i := 35) (by decide +kernel), List.mem_of_getElem? (i := 1018) (by decide +kernel), List.mem_of_getElem? (i := 1019) (by decide +kernel)⟩
theorem lw_p29 : lw_okq (⟨"PackedGraph", "keepTape", "(II)I"⟩, 6) := ⟨⟨by decide +kernel, by decide +kernel⟩, List.mem_of_getElem? (i := 35) (by decide +kernel), List.mem_of_getElem? (i := 1058) (by decide +kernel), List.mem_of_getElem? (i := 1059) (by decide +kernel)⟩
theorem lw_p30 : lw_okq (⟨"PackedGraph", "needKind", "(II)V"⟩, 6) := ⟨⟨by decide +kernel, by decide +kernel⟩, List.mem_of_getElem? (i := 35) (by decide +kernel), List.mem_of_getElem? (i := 1095) (by decide +kernel), List.mem_of_getElem? (i := 1096) (by decide +kernel)⟩
theorem lw_p31 : lw_okq (⟨"PackedGraph", "needParts", "(I)V"⟩, 6) := ⟨⟨by decide +kernel, by decide +kernel⟩, List.mem_of_getElem? (i := 35) (by decide +kernel), List.mem_of_getElem? (i := 1101) (by decide +kernel), List.mem_of_getElem? (i := 1102) (by decide +kernel)⟩
def lw_privs_2 : List (MethodName × Nat) := [(⟨"java/util/ArrayList", "fastRemove", "([Ljava/lang/Object;I)V"⟩, 3), (⟨"PackedGraph$ByteRow", "grow", "(I)V"⟩, 2), (⟨"PackedGraph", "needValue", "(I)V"⟩, 6), (⟨"PackedGraph$Packer", "writeValue", "(LPackedGraph$Values;LPackedGraph$Value;I)V"⟩, 4), (⟨"PackedGraph$Packer", "writeReference", "(I)V"⟩, 4), (⟨"PackedGraph$Packer", "writeHead", "(III)V"⟩, 4), (⟨"PackedGraph$Packer", "writeBytes", "(JI)V"⟩, 4), (⟨"PackedGraph$Packer", "fits", "(I)Z"⟩, 4), (⟨"PackedGraph$Packer", "writeInteger", "(JZ)V"⟩, 4), (⟨"PackedGraph$Packer", "writeTime", "(JI)V"⟩, 4), (⟨"PackedGraph$Packer", "beginGroup", "(LPackedGraph$Value;I)V"⟩, 4), (⟨"PackedGraph$Packer", "writeRow", "(LPackedGraph$Value;)V"⟩, 4), (⟨"PackedGraph", "needRoom", "(I)V"⟩, 6), (⟨"PackedGraph", "keepTape", "(II)I"⟩, 6), (⟨"PackedGraph", "needKind", "(II)V"⟩, 6), (⟨"PackedGraph", "needParts", "(I)V"⟩, 6)]
theorem lw_r2 : ∀ q ∈ lw_privs_2, lw_okq q := List.forall_mem_cons.mpr ⟨lw_p16, List.forall_mem_cons.mpr ⟨lw_p17, List.forall_mem_cons.mpr ⟨lw_p18, List.forall_mem_cons.mpr ⟨lw_p19, List.forall_mem_cons.mpr ⟨lw_p20, List.forall_mem_cons.mpr ⟨lw_p21, List.forall_mem_cons.mpr ⟨lw_p22, List.forall_mem_cons.mpr ⟨lw_p23, List.forall_mem_cons.mpr ⟨lw_p24, List.forall_mem_cons.mpr ⟨lw_p25, List.forall_mem_cons.mpr ⟨lw_p26, List.forall_mem_cons.mpr ⟨lw_p27, List.forall_mem_cons.mpr ⟨lw_p28, List.forall_mem_cons.mpr ⟨lw_p29, List.forall_mem_cons.mpr ⟨lw_p30, List.forall_mem_cons.mpr ⟨lw_p31, fun _ h => absurd h List.not_mem_nil⟩⟩⟩⟩⟩⟩⟩⟩⟩⟩⟩⟩⟩⟩⟩⟩
theorem lw_p32 : lw_okq (⟨"PackedGraphModel", "many", "(II)J"⟩, 36) := ⟨⟨by decide +kernel, by decide +kernel⟩, List.mem_of_getElem? (i := 1188) (by decide +kernel), List.mem_of_getElem? (i := 1323) (by decide +kernel), List.mem_of_getElem? (i := 1324) (by decide +kernel)⟩
theorem lw_p33 : lw_okq (⟨"PackedGraphModel", "number", "([BII)J"⟩, 36) := ⟨⟨by decide +kernel, by decide +kernel⟩, List.mem_of_getElem? (i := 1188) (by decide +kernel), List.mem_of_getElem? (i := 1327) (by decide +kernel), List.mem_of_getElem? (i := 1328) (by decide +kernel)⟩
theorem lw_p34 : lw_okq (⟨"PackedGraphModel", "make", "(IJ)I"⟩, 36) := ⟨⟨by decide +kernel, by decide +kernel⟩, List.mem_of_getElem? (i := 1188) (by decide +kernel), List.mem_of_getElem? (i := 1340) (by decide +kernel), List.mem_of_getElem? (i := 1341) (by decide +kernel)⟩
theorem lw_p35 : lw_okq (⟨"PackedGraphModel", "makeRow", "(III)I"⟩, 36) := ⟨⟨by decide +kernel, by decide +kernel⟩, List.mem_of_getElem? (i := 1188) (by decide +kernel), List.mem_of_getElem? (i := 1367) (by decide +kernel), List.mem_of_getElem? (i := 1368) (by decide +kernel)⟩
theorem lw_p36 : lw_okq (⟨"PackedGraphModel", "isValue", "(I)Z"⟩, 36) := ⟨⟨by decide +kernel, by decide +kernel⟩, List.mem_of_getElem? (i := 1188) (by decide +kernel), List.mem_of_getElem? (i := 1388) (by decide +kernel), List.mem_of_getElem? (i := 1389) (by decide +kernel)⟩
theorem lw_p37 : lw_okq (⟨"PackedGraphModel", "link", "(II)V"⟩, 36) := ⟨⟨by decide +kernel, by decide +kernel⟩, List.mem_of_getElem? (i := 1188) (by decide +kernel), List.mem_of_getElem? (i := 1392) (by decide +kernel), List.mem_of_getElem? (i := 1393) (by decide +kernel)⟩
theorem lw_p38 : lw_okq (⟨"PackedGraphModel", "readAll", "()Z"⟩, 36) := ⟨⟨by decide +kernel, by decide +kernel⟩, List.mem_of_getElem? (i := 1188) (by decide +kernel), List.mem_of_getElem? (i := 1404) (by decide +kernel), List.mem_of_getElem? (i := 1405) (by decide +kernel)⟩
theorem lw_p39 : lw_okq (⟨"PackedGraphModel", "readOne", "()Z"⟩, 36) := ⟨⟨by decide +kernel, by decide +kernel⟩, List.mem_of_getElem? (i := 1188) (by decide +kernel), List.mem_of_getElem? (i := 1408) (by decide +kernel), List.mem_of_getElem? (i := 1409) (by decide +kernel)⟩
theorem lw_p40 : lw_okq (⟨"PackedGraphModel", "fail", "(II)Z"⟩, 36) := ⟨⟨by decide +kernel, by decide +kernel⟩, List.mem_of_getElem? (i := 1188) (by decide +kernel), List.mem_of_getElem? (i := 1412) (by decide +kernel), List.mem_of_getElem? (i := 1413) (by decide +kernel)⟩
theorem lw_p41 : lw_okq (⟨"PackedGraphModel", "readGroup", "(IJI)Z"⟩, 36) := ⟨⟨by decide +kernel, by decide +kernel⟩, List.mem_of_getElem? (i := 1188) (by decide +kernel), List.mem_of_getElem? (i := 1416) (by decide +kernel), List.mem_of_getElem? (i := 1417) (by decide +kernel)⟩
theorem lw_p42 : lw_okq (⟨"PackedGraphModel", "refer", "(III)Z"⟩, 36) := ⟨⟨by decide +kernel, by decide +kernel⟩, List.mem_of_getElem? (i := 1188) (by decide +kernel), List.mem_of_getElem? (i := 1421) (by decide +kernel), List.mem_of_getElem? (i := 1422) (by decide +kernel)⟩
theorem lw_p43 : lw_okq (⟨"PackedGraphModel", "integerAt", "(II)J"⟩, 36) := ⟨⟨by decide +kernel, by decide +kernel⟩, List.mem_of_getElem? (i := 1188) (by decide +kernel), List.mem_of_getElem? (i := 1425) (by decide +kernel), List.mem_of_getElem? (i := 1426) (by decide +kernel)⟩
theorem lw_p44 : lw_okq (⟨"PackedGraphModel", "readPlain", "(III)V"⟩, 36) := ⟨⟨by decide +kernel, by decide +kernel⟩, List.mem_of_getElem? (i := 1188) (by decide +kernel), List.mem_of_getElem? (i := 1436) (by decide +kernel), List.mem_of_getElem? (i := 1437) (by decide +kernel)⟩
theorem lw_p45 : lw_okq (⟨"PackedGraphModel", "packTo", "([BI)Z"⟩, 36) := ⟨⟨by decide +kernel, by decide +kernel⟩, List.mem_of_getElem? (i := 1188) (by decide +kernel), List.mem_of_getElem? (i := 1448) (by decide +kernel), List.mem_of_getElem? (i := 1449) (by decide +kernel)⟩
theorem lw_p46 : lw_okq (⟨"PackedGraphModel", "valueTo", "([BI)Z"⟩, 36) := ⟨⟨by decide +kernel, by decide +kernel⟩, List.mem_of_getElem? (i := 1188) (by decide +kernel), List.mem_of_getElem? (i := 1452) (by decide +kernel), List.mem_of_getElem? (i := 1453) (by decide +kernel)⟩
theorem lw_p47 : lw_okq (⟨"PackedGraphModel", "plainTo", "([BI)V"⟩, 36) := ⟨⟨by decide +kernel, by decide +kernel⟩, List.mem_of_getElem? (i := 1188) (by decide +kernel), List.mem_of_getElem? (i := 1456) (by decide +kernel), List.mem_of_getElem? (i := 1457) (by decide +kernel)⟩
def lw_privs_3 : List (MethodName × Nat) := [(⟨"PackedGraphModel", "many", "(II)J"⟩, 36), (⟨"PackedGraphModel", "number", "([BII)J"⟩, 36), (⟨"PackedGraphModel", "make", "(IJ)I"⟩, 36), (⟨"PackedGraphModel", "makeRow", "(III)I"⟩, 36), (⟨"PackedGraphModel", "isValue", "(I)Z"⟩, 36), (⟨"PackedGraphModel", "link", "(II)V"⟩, 36), (⟨"PackedGraphModel", "readAll", "()Z"⟩, 36), (⟨"PackedGraphModel", "readOne", "()Z"⟩, 36), (⟨"PackedGraphModel", "fail", "(II)Z"⟩, 36), (⟨"PackedGraphModel", "readGroup", "(IJI)Z"⟩, 36), (⟨"PackedGraphModel", "refer", "(III)Z"⟩, 36), (⟨"PackedGraphModel", "integerAt", "(II)J"⟩, 36), (⟨"PackedGraphModel", "readPlain", "(III)V"⟩, 36), (⟨"PackedGraphModel", "packTo", "([BI)Z"⟩, 36), (⟨"PackedGraphModel", "valueTo", "([BI)Z"⟩, 36), (⟨"PackedGraphModel", "plainTo", "([BI)V"⟩, 36)]
theorem lw_r3 : ∀ q ∈ lw_privs_3, lw_okq q := List.forall_mem_cons.mpr ⟨lw_p32, List.forall_mem_cons.mpr ⟨lw_p33, List.forall_mem_cons.mpr ⟨lw_p34, List.forall_mem_cons.mpr ⟨lw_p35, List.forall_mem_cons.mpr ⟨lw_p36, List.forall_mem_cons.mpr ⟨lw_p37, List.forall_mem_cons.mpr ⟨lw_p38, List.forall_mem_cons.mpr ⟨lw_p39, List.forall_mem_cons.mpr ⟨lw_p40, List.forall_mem_cons.mpr ⟨lw_p41, List.forall_mem_cons.mpr ⟨lw_p42, List.forall_mem_cons.mpr ⟨lw_p43, List.forall_mem_cons.mpr ⟨lw_p44, List.forall_mem_cons.mpr ⟨lw_p45, List.forall_mem_cons.mpr ⟨lw_p46, List.forall_mem_cons.mpr ⟨lw_p47, fun _ h => absurd h List.not_mem_nil⟩⟩⟩⟩⟩⟩⟩⟩⟩⟩⟩⟩⟩⟩⟩⟩
theorem lw_p48 : lw_okq (⟨"PackedGraphModel", "byteTo", "([BI)V"⟩, 36) := ⟨⟨by decide +kernel, by decide +kernel⟩, List.mem_of_getElem? (i := 1188) (by decide +kernel), List.mem_of_getElem? (i := 1460) (by decide +kernel), List.mem_of_getElem? (i := 1461) (by decide +kernel)⟩
theorem lw_p49 : lw_okq (⟨"PackedGraphModel", "integerTo", "([BJZ)V"⟩, 36) := ⟨⟨by decide +kernel, by decide +kernel⟩, List.mem_of_getElem? (i := 1188) (by decide +kernel), List.mem_of_getElem? (i := 1464) (by decide +kernel), List.mem_of_getElem? (i := 1465) (by decide +kernel)⟩
theorem lw_p50 : lw_okq (⟨"PackedGraphModel", "numberTo", "([BJI)V"⟩, 36) := ⟨⟨by decide +kernel, by decide +kernel⟩, List.mem_of_getElem? (i := 1188) (by decide +kernel), List.mem_of_getElem? (i := 1473) (by decide +kernel), List.mem_of_getElem? (i := 1474) (by decide +kernel)⟩
theorem lw_p51 : lw_okq (⟨"PackedGraphModel", "countTo", "([BIIIIII)V"⟩, 36) := ⟨⟨by decide +kernel, by decide +kernel⟩, List.mem_of_getElem? (i := 1188) (by decide +kernel), List.mem_of_getElem? (i := 1477) (by decide +kernel), List.mem_of_getElem? (i := 1478) (by decide +kernel)⟩
theorem lw_p52 : lw_okq (⟨"PackedGraphModel", "bytesTo", "([BI)V"⟩, 36) := ⟨⟨by decide +kernel, by decide +kernel⟩, List.mem_of_getElem? (i := 1188) (by decide +kernel), List.mem_of_getElem? (i := 1481) (by decide +kernel), List.mem_of_getElem? (i := 1482) (by decide +kernel)⟩
theorem lw_p53 : lw_okq (⟨"PackedGraphModel", "extensionTo", "([BII)V"⟩, 36) := ⟨⟨by decide +kernel, by decide +kernel⟩, List.mem_of_getElem? (i := 1188) (by decide +kernel), List.mem_of_getElem? (i := 1485) (by decide +kernel), List.mem_of_getElem? (i := 1486) (by decide +kernel)⟩
theorem lw_p54 : lw_okq (⟨"PackedGraphModel", "timeTo", "([BJI)V"⟩, 36) := ⟨⟨by decide +kernel, by decide +kernel⟩, List.mem_of_getElem? (i := 1188) (by decide +kernel), List.mem_of_getElem? (i := 1489) (by decide +kernel), List.mem_of_getElem? (i := 1490) (by decide +kernel)⟩
theorem lw_p55 : lw_okq (⟨"PackedGraphModel", "isSamePacked", "(II)Z"⟩, 36) := ⟨⟨by decide +kernel, by decide +kernel⟩, List.mem_of_getElem? (i := 1188) (by decide +kernel), List.mem_of_getElem? (i := 1503) (by decide +kernel), List.mem_of_getElem? (i := 1504) (by decide +kernel)⟩
def lw_privs_4 : List (MethodName × Nat) := [(⟨"PackedGraphModel", "byteTo", "([BI)V"⟩, 36), (⟨"PackedGraphModel", "integerTo", "([BJZ)V"⟩, 36), (⟨"PackedGraphModel", "numberTo", "([BJI)V"⟩, 36), (⟨"PackedGraphModel", "countTo", "([BIIIIII)V"⟩, 36), (⟨"PackedGraphModel", "bytesTo", "([BI)V"⟩, 36), (⟨"PackedGraphModel", "extensionTo", "([BII)V"⟩, 36), (⟨"PackedGraphModel", "timeTo", "([BJI)V"⟩, 36), (⟨"PackedGraphModel", "isSamePacked", "(II)Z"⟩, 36)]
theorem lw_r4 : ∀ q ∈ lw_privs_4, lw_okq q := List.forall_mem_cons.mpr ⟨lw_p48, List.forall_mem_cons.mpr ⟨lw_p49, List.forall_mem_cons.mpr ⟨lw_p50, List.forall_mem_cons.mpr ⟨lw_p51, List.forall_mem_cons.mpr ⟨lw_p52, List.forall_mem_cons.mpr ⟨lw_p53, List.forall_mem_cons.mpr ⟨lw_p54, List.forall_mem_cons.mpr ⟨lw_p55, fun _ h => absurd h List.not_mem_nil⟩⟩⟩⟩⟩⟩⟩⟩
def lw_privs : List (MethodName × Nat) := lw_privs_1 ++ (lw_privs_2 ++ (lw_privs_3 ++ (lw_privs_4)))
def lw_tbl : List Cond := k2_sels lw_privs ++ tables_1
theorem lw_privs_ok : ∀ q ∈ lw_privs, lw_okq q := by
  show ∀ q ∈ lw_privs_1 ++ (lw_privs_2 ++ (lw_privs_3 ++ (lw_privs_4))), lw_okq q
  exact List.forall_mem_append.mpr ⟨lw_r1, List.forall_mem_append.mpr ⟨lw_r2, List.forall_mem_append.mpr ⟨lw_r3, lw_r4⟩⟩⟩
end
section
/-! ===== BEGIN words of one list among another's, by their places ===== -/
theorem goodIn_r {big : List Cond} (ws : List Cond) (ps : List Nat) (hp : ws = ps.filterMap (fun i => big[i]?)) (h : ws.all goodWord = true) : GoodIn big ws := by
  intro w hw
  have h1 := List.all_eq_true.mp h w hw
  rw [hp] at hw
  obtain ⟨i, -, hi⟩ := List.mem_filterMap.mp hw
  have hm : w ∈ big := by first | exact List.mem_of_getElem? hi | exact List.getElem?_mem hi
  exact ⟨hm, good_of_word h1⟩
theorem goodIn_app {big a b : List Cond} (ha : GoodIn big a) (hb : GoodIn big b) : GoodIn big (a ++ b) := fun w h => (List.mem_append.mp h).elim (ha w) (hb w)
theorem goodIn_ca {big a b : List Cond} {c : Cond} (ha : GoodIn big (c :: a)) (hb : GoodIn big b) : GoodIn big (c :: (a ++ b)) := fun w h => (List.mem_cons.mp h).elim (fun e => ha w (List.mem_cons.mpr (Or.inl e))) (fun h => (List.mem_append.mp h).elim (fun h => ha w (List.mem_cons.mpr (Or.inr h))) (hb w))
theorem goodIn_sub {big ws : List Cond} (hm : ∀ w ∈ ws, w ∈ big) (h : ws.all goodWord = true) : GoodIn big ws := fun w hw => ⟨hm w hw, good_of_word (List.all_eq_true.mp h w hw)⟩
/-! ===== END ===== -/

/-! ===== BEGIN exceptions that leave a method, and their catching by the caller (launches without stack traces) ===== -/
section VXA
/-! The laws vx_back, vx_callV, vx_callS, vx_callSW, vx_throw0, vx_throwS follow proofs of the library, with one case more: JvmDerived/Free/Laws.lean (Back.of_free), Shelf42/LK1.lean (callV, callS), Shelf/KitTraced.lean (throwNew0V, throwNewS). -/
/-- where a method has thrown q: the class by its name, the cell, what was written, the world -/
def vx_T (XC : String → State → State → Prop) (st : State) (q : Addr) (t : State) (mc ms : Nat) (free : Addr → Prop) : Prop :=
  ∃ (E : String) (ce : Cell) (L : List Loc), XC E st t ∧ t.heap[q]? = some ce ∧ ce.vm = .none ∧ st.vm.findClass E = some ce.cls ∧ st.WarmedH t.vm ∧ st.sameButNew ({ t with vm := st.vm } : State) L mc ms ∧ ∀ z ∈ L, free z.base
def vx_Q (Qc : Array Value → State → Outcome → State → Prop) (XC : String → State → State → Prop) (mc ms : Nat) (free : Addr → Prop) : Array Value → State → Outcome → State → Prop := fun a st o t =>
  (Qc a st o t ∧ ∃ L, FrameEnd st o t L mc ms ∧ ∀ q ∈ L, free q.base) ∨ ∃ q, o = .threw q ∧ vx_T XC st q t mc ms free
/-- a callee that returns or throws -/
def vx_Met (l : Launch) (y : MethodName) (ws : List Cond) (rm : Room) (Pc : Array Value → State → Prop) (Qc : Array Value → State → Outcome → State → Prop) (XC : String → State → State → Prop) (mc ms : Nat) (free : Addr → Prop) : Prop :=
  MetFree l y (headSpec ws rm) Pc (fun _ _ _ _ _ => True) (vx_Q Qc XC mc ms free)
def vx_Post (XC : String → State → State → Prop) (mc ms : Nat) (free : Addr → Prop) : Pt → Array Value → Addr → Pt → Prop := fun A a q B =>
  ∃ (g : JFrame) (mk : MethodId) (t : State) (L : List Loc) (E : String) (ce : Cell), B.U.heap = t.heap ∧ B.U.vm = t.vm ∧ XC E (A.U.calling g mk a) t ∧ t.heap[q]? = some ce ∧ ce.vm = .none ∧ A.U.vm.findClass E = some ce.cls ∧ B.locs = A.locs ++ L ∧ (∀ z ∈ L, free z.base) ∧ B.cells = A.cells + mc ∧ B.slots = A.slots + ms
def vx_Back (l : Launch) (R : Room) (p : Program) (e : Env) (below : List Frame) (s : State) (sargs : Array Value) (y : MethodName) (len W9 : Nat)
    (Pre : Pt → Array Value → Prop) (Post : Pt → Array Value → Option Value → Pt → Prop) (PostX : Pt → Array Value → Addr → Pt → Prop) : Prop :=
  ∀ (m : MethodId) (meth : Method) (c : Code) (A : Pt) (g : JFrame) (ig : Instr) (mk : MethodId) (a : Array Value),
    Stand p l e R s m sargs below meth c A.U A.locs A.cells A.slots → g.method = m → g.locals.size = c.maxLocals → decode c.code g.pc = .ok (ig, len) →
    2 * g.monitorRoom + (g.stack.map fun v => v.category).sum ≤ W9 → A.U.methodNamed? y = some mk → Pre A a →
    (∃ (v : Option Value) (B : Pt), Stand p l e R s m sargs below meth c B.U B.locs B.cells B.slots ∧ Post A a v B ∧
      Steps p.tables e below (doInvoke e (A.U.setTop g) [] mk a).1 (B.U.setTop { g with pc := g.pc + len, stack := v.toList ++ g.stack })) ∨
    (∃ (q : Addr) (B : Pt), Stand p l e R s m sargs below meth c B.U B.locs B.cells B.slots ∧ PostX A a q B ∧
      Steps p.tables e below (doInvoke e (A.U.setTop g) [] mk a).1 ((B.U.setTop g).pushFrame (.throwing q)))
section Payer
variable {l : Launch} {R : Room} {p : Program} {e : Env} {below : List Frame} {s : State} {sargs : Array Value} {y : MethodName} {len W9 : Nat}
theorem vx_back {ws : List Cond} {rm : Room} {Pc : Array Value → State → Prop} {Qc : Array Value → State → Outcome → State → Prop} {XC : String → State → State → Prop} {mc ms : Nat} {free : Addr → Prop} {bytes : ByteArray} {maxL : Nat} {ret : Option FieldType}
    (hM : vx_Met l y ws rm Pc Qc XC mc ms free) (hblind : FrameBlind Pc) (hrc : rm.cells = mc) (hrs : rm.slots = ms)
    (hframes : rm.frames + 1 ≤ R.frames) (hlocals : W9 + (maxL + 11) + rm.locals ≤ R.locals)
    (hws : ∀ w ∈ ws, ∀ a' U, s.WarmedH U.vm → w.before a' U = true) (hcode : Cond.code y bytes maxL ret ∈ ws) (hinit : ∀ a' U, s.WarmedH U.vm → (Cond.initialized y.cls).before a' U = true) :
    vx_Back l R p e below s sargs y len W9 (PreOf R mc ms Pc) (PostOf Qc mc ms free) (vx_Post XC mc ms free) := by
  intro m meth c A g ig mk a X hg hsize hdg hW hn hp
  have h1 : (headSpec ws rm).pre.before a A.U = true := atoms_intro fun w hw => hws w hw _ _ X.warmed
  have h2 : (Cond.code y bytes maxL ret).before a A.U = true := hws _ hcode _ _ X.warmed
  have h3 : (Cond.initialized y.cls).before a A.U = true := hinit _ _ X.warmed
  have h4 : A.cells + (headSpec ws rm).room.cells ≤ R.cells := by rw [show (headSpec ws rm).room.cells = mc from hrc]; exact hp.1
  have h5 : A.slots + (headSpec ws rm).room.slots ≤ R.slots := by rw [show (headSpec ws rm).room.slots = ms from hrs]; exact hp.2.1
  have hPc : Pc a (A.U.calling g mk a) := hblind _ _ _ _ hp.2.2
  obtain ⟨U, Ls, c0, s0⟩ := A
  dsimp only [Pt.U, Pt.locs, Pt.cells, Pt.slots] at h1 h2 h3 h4 h5 X hn hPc ⊢
  obtain ⟨methY, cY, hmY, hcY, -, hlY, -, -, -, -⟩ := Cond.code_spec hn h2
  obtain ⟨kY, hkY, -⟩ := className_of_methodNamed hn
  have hinitY : kY.init = .initialized := Cond.initialized_spec (findClass_of_methodNamed hn) hkY h3
  have h : At U g.method c below := by rw [hg]; exact X.here
  have hlocals9 : W9 + (maxL + 11) + (headSpec ws rm).room.locals ≤ R.locals := hlocals
  have happ : (headSpec ws rm).appliesLoose y e.platform (U.calling g mk a) = true :=
    Spec.appliesLoose_calling (g := g) h hdg hn hkY hinitY
      (X.room_calling (g := g) (R' := (headSpec ws rm).room) hsize hmY hcY hframes (by rw [hlY]; omega) h4 h5) h1
  obtain ⟨mid, hmid⟩ := h.above
  have hfr : (U.setTop g).frames = (.java g :: mid) ++ below := by rw [State.frames_setTop' g h.top, hmid]; rfl
  obtain ⟨o, s₂, hsteps, -, hend, hq⟩ := Steps.callFree hM p X.admits X.cas X.clock (acts := []) hfr happ hPc trivial
  have hq' : vx_Q Qc XC mc ms free a (U.calling g mk a) o s₂ := hq
  rw [State.frames_setTop' g h.top] at hend
  obtain ⟨g₀, hg0⟩ := Option.isSome_iff_exists.mp h.top
  obtain ⟨r, hr⟩ := State.topJava?_eq_some.mp hg0
  have hr' : (({ U with heap := s₂.heap, slotsUsed := s₂.slotsUsed } : State).setVm s₂.vm).frames = .java g₀ :: r := hr
  rcases hq' with ⟨hqc, L, hfe, hL⟩ | ⟨q, rfl, E, ce, L, hx, hce, hcv, hcl, hW₂, hsm, hL⟩
  · obtain ⟨⟨v, rfl⟩, hW₂, e2, q2, q3, q4, q5, q6⟩ := id hfe
    have e3 : s₂ = ({ (U.calling g mk a).setFrames s₂.frames with heap := s₂.heap, slotsUsed := s₂.slotsUsed } : State).setVm s₂.vm := by
      have : s₂ = ({ s₂ with vm := (U.calling g mk a).vm } : State).setVm s₂.vm := rfl
      rw [e2] at this
      exact this
    obtain ⟨c₂, i₂, len₂, hc₂, hd₂, hf₂⟩ := hend
    have hW' : U.WarmedH s₂.vm := hW₂
    have hcc : c₂ = c := by
      have h1 : s₂.code? g.method = U.code? g.method := by
        rw [State.code?_eq, State.code?_eq, hW'.alike.method?]
      exact Option.some.inj (hc₂.symm.trans (h1.trans h.code))
    subst hcc
    have hlen : len₂ = len := by rw [hdg] at hd₂; cases hd₂; rfl
    subst hlen
    have hs₂ : s₂ = (({ U with heap := s₂.heap, slotsUsed := s₂.slotsUsed } : State).setVm s₂.vm).setTop { g with pc := g.pc + len₂, stack := v.toList ++ g.stack } := by
      refine e3.trans ?_
      rw [hf₂, State.calling_eq h.top, State.setFrames_setFrames, State.setTop_of_frames _ hr', hr]
      rfl
    have hsame : U.sameButNew ({ U with heap := s₂.heap, slotsUsed := s₂.slotsUsed } : State) L mc ms := by
      refine ⟨?_, q2, q3, q4, q5, q6⟩
      obtain ⟨t, ht, -⟩ := State.frames_cons hr
      show ({ U with heap := s₂.heap, slotsUsed := s₂.slotsUsed } : State) = { U.setFrames U.frames with heap := s₂.heap, slotsUsed := s₂.slotsUsed }
      rw [State.setFrames_self ht]
    subst hg
    refine Or.inl ⟨v, ⟨(({ U with heap := s₂.heap, slotsUsed := s₂.slotsUsed } : State).setVm s₂.vm), Ls ++ L, c0 + mc, s0 + ms⟩,
      ⟨X.admits, X.cas, X.clock, X.frames, X.room, X.hears, X.method, X.code, (X.here.setHeapUsed s₂.heap s₂.slotsUsed).setVm hW'.alike, X.tail, State.WarmedH.trans X.warmed hW', X.limits, X.bytes, X.same.trans (hsame.setVm s.vm)⟩,
      ⟨g, mk, s₂, L, rfl, rfl, hqc, rfl, hL, rfl, rfl⟩, ?_⟩
    show Steps p.tables e below _ ((({ U with heap := s₂.heap, slotsUsed := s₂.slotsUsed } : State).setVm s₂.vm).setTop { g with pc := g.pc + len₂, stack := v.toList ++ g.stack })
    rw [← hs₂]
    exact hsteps
  · obtain ⟨e2, q2, q3, q4, q5, q6⟩ := id hsm
    have e3 : s₂ = ({ (U.calling g mk a).setFrames s₂.frames with heap := s₂.heap, slotsUsed := s₂.slotsUsed } : State).setVm s₂.vm := by
      have : s₂ = ({ s₂ with vm := (U.calling g mk a).vm } : State).setVm s₂.vm := rfl
      rw [e2] at this
      exact this
    have hf₂ : s₂.frames = .throwing q :: .java g :: U.frames.tail := hend
    have hW' : U.WarmedH s₂.vm := hW₂
    have hs₂ : s₂ = ((({ U with heap := s₂.heap, slotsUsed := s₂.slotsUsed } : State).setVm s₂.vm).setTop g).pushFrame (.throwing q) := by
      refine e3.trans ?_
      rw [hf₂, State.calling_eq h.top, State.setFrames_setFrames, State.pushFrame, State.frames_setTop _ hr', State.setTop_of_frames _ hr', State.setFrames_setFrames, hr]
      rfl
    have hsame : U.sameButNew ({ U with heap := s₂.heap, slotsUsed := s₂.slotsUsed } : State) L mc ms := by
      refine ⟨?_, q2, q3, q4, q5, q6⟩
      obtain ⟨t, ht, -⟩ := State.frames_cons hr
      show ({ U with heap := s₂.heap, slotsUsed := s₂.slotsUsed } : State) = { U.setFrames U.frames with heap := s₂.heap, slotsUsed := s₂.slotsUsed }
      rw [State.setFrames_self ht]
    subst hg
    refine Or.inr ⟨q, ⟨(({ U with heap := s₂.heap, slotsUsed := s₂.slotsUsed } : State).setVm s₂.vm), Ls ++ L, c0 + mc, s0 + ms⟩,
      ⟨X.admits, X.cas, X.clock, X.frames, X.room, X.hears, X.method, X.code, (X.here.setHeapUsed s₂.heap s₂.slotsUsed).setVm hW'.alike, X.tail, State.WarmedH.trans X.warmed hW', X.limits, X.bytes, X.same.trans (hsame.setVm s.vm)⟩,
      ⟨g, mk, s₂, L, E, ce, rfl, rfl, hx, hce, hcv, hcl, rfl, hL, rfl, rfl⟩, ?_⟩
    show Steps p.tables e below _ (((({ U with heap := s₂.heap, slotsUsed := s₂.slotsUsed } : State).setVm s₂.vm).setTop g).pushFrame (.throwing q))
    rw [← hs₂]
    exact hsteps
end Payer
section Calls
variable {p : Program} {l : Launch} {e : Env} {R : Room} {s : State} {m : MethodId} {args : Array Value} {below : List Frame} {meth : Method} {c : Code} {T : State} {locs : List Loc} {cells slots : Nat}
theorem vx_callV (X : Stand p l e R s m args below meth c T locs cells slots) (hexec : p.tables.exec = Jvm.exec) {own C : String} {index : Nat} {y : MethodName} {bytes : ByteArray} {maxL : Nat} {ret : Option FieldType}
    (hown : s.vm.findClass own = some m.cls) (hlink : (Cond.methodLink own index y).before args s = true) (hinst : (Cond.instanceMethod y).before args s = true) (hsel : (Cond.selects C y y).before args s = true)
    (hcode : (Cond.code y bytes maxL ret).before args s = true) (hy : y.cls ≠ "java/lang/invoke/MethodHandle" ∧ y.cls ≠ "java/lang/invoke/VarHandle")
    {W9 : Nat} {Pre : Pt → Array Value → Prop} {Post : Pt → Array Value → Option Value → Pt → Prop} {PostX : Pt → Array Value → Addr → Pt → Prop} (hK : vx_Back l R p e below s args y 3 W9 Pre Post PostX)
    {b : Addr} {cellB : Cell} (hcell : T.heap[b]? = some cellB) (hobj : cellB.vm.isStatics = false) (hcls : s.vm.findClass C = some cellB.cls)
    {g : JFrame} (hg : g.method = m) (hsize : g.locals.size = c.maxLocals) {argsL rest : List Value} (hlen : ∀ sig, parseMethodDescriptor y.desc = some sig → argsL.length = sig.parameters.length)
    (hstack : g.stack = argsL.reverse ++ .ref b :: rest) (hW : 2 * g.monitorRoom + (rest.map fun v => v.category).sum ≤ W9) (hdg : decode c.code g.pc = .ok (.invokevirtual index, 3))
    (hpre : ∀ vm₁, s.WarmedH vm₁ → Pre ⟨T.setVm vm₁, locs, cells, slots⟩ (Value.ref b :: argsL).toArray) :
    (∃ (v : Option Value) (vm₁ : Vm) (B : Pt), s.WarmedH vm₁ ∧ Stand p l e R s m args below meth c B.U B.locs B.cells B.slots ∧ Post ⟨T.setVm vm₁, locs, cells, slots⟩ (Value.ref b :: argsL).toArray v B ∧
      ∀ target, Steps p.tables e below (B.U.setTop { g with pc := g.pc + 3, stack := v.toList ++ rest }) target → Steps p.tables e below (T.setTop g) target) ∨
    (∃ (q : Addr) (vm₁ : Vm) (B : Pt), s.WarmedH vm₁ ∧ Stand p l e R s m args below meth c B.U B.locs B.cells B.slots ∧ PostX ⟨T.setVm vm₁, locs, cells, slots⟩ (Value.ref b :: argsL).toArray q B ∧
      Steps p.tables e below (T.setTop g) ((B.U.setTop { g with stack := rest }).pushFrame (.throwing q))) := by
  obtain ⟨mk, methM, hnamed, hmethM, hstM, habM⟩ := Cond.instanceMethod_spec hinst
  obtain ⟨methM', cM, hmethM', -, -, -, -, -, -, hsigM⟩ := Cond.code_spec hnamed hcode
  cases hmethM.symm.trans hmethM'
  obtain ⟨c2, r2, m2, q1, q2, q3, q4, kP, hkP, hkPi⟩ := Cond.selects_spec hsel
  cases hcls.symm.trans q1
  cases (State.methodFound?_of_named hnamed hy).symm.trans q2
  cases hnamed.symm.trans q3
  have hselP : selectMethod e.platform s.vm cellB.cls mk = .method mk := by rw [Launch.admits_selectMethod X.admits]; exact q4
  obtain ⟨vm₁, X₁, hstep₁⟩ := X.invokevirtual hexec hown hlink hnamed hmethM hstM hkP hkPi hy (a := b) (cell := cellB) hcell
    (fun z h => by rw [h] at hobj; cases hobj) hselP hmethM habM hkP hkPi (g := g) hg (argsL := argsL) (rest := rest) (hlen _ hsigM) hstack hdg
  rcases hK m meth c ⟨T.setVm vm₁, locs, cells, slots⟩ { g with stack := rest } (.invokevirtual index) mk (Value.ref b :: argsL).toArray X₁ hg hsize hdg hW (X₁.named hnamed) (hpre vm₁ X₁.warmed) with ⟨v, B, X', hpost, hsteps⟩ | ⟨q, B, X', hpost, hsteps⟩
  · exact Or.inl ⟨v, vm₁, B, X₁.warmed, X', hpost, fun target h => hstep₁ _ fun acts => by rw [doInvoke_state]; exact hsteps.trans h⟩
  · exact Or.inr ⟨q, vm₁, B, X₁.warmed, X', hpost, hstep₁ _ fun acts => by rw [doInvoke_state]; exact hsteps⟩
theorem vx_callS (X : Stand p l e R s m args below meth c T locs cells slots) (hexec : p.tables.exec = Jvm.exec) {own : String} {index : Nat} {y : MethodName} {bytes : ByteArray} {maxL : Nat} {ret : Option FieldType}
    (hown : s.vm.findClass own = some m.cls) (hlink : (Cond.methodLink own index y).before args s = true) (hstat : (Cond.static y).before args s = true) (hinit : (Cond.initialized y.cls).before args s = true)
    (hcode : (Cond.code y bytes maxL ret).before args s = true) (hy : y.cls ≠ "java/lang/invoke/MethodHandle" ∧ y.cls ≠ "java/lang/invoke/VarHandle")
    {W9 : Nat} {Pre : Pt → Array Value → Prop} {Post : Pt → Array Value → Option Value → Pt → Prop} {PostX : Pt → Array Value → Addr → Pt → Prop} (hK : vx_Back l R p e below s args y 3 W9 Pre Post PostX)
    {g : JFrame} (hg : g.method = m) (hsize : g.locals.size = c.maxLocals) {argsL rest : List Value} (hlen : ∀ sig, parseMethodDescriptor y.desc = some sig → argsL.length = sig.parameters.length)
    (hstack : g.stack = argsL.reverse ++ rest) (hW : 2 * g.monitorRoom + (rest.map fun v => v.category).sum ≤ W9) (hdg : decode c.code g.pc = .ok (.invokestatic index, 3))
    (hpre : ∀ vm₁, s.WarmedH vm₁ → Pre ⟨T.setVm vm₁, locs, cells, slots⟩ argsL.toArray) :
    (∃ (v : Option Value) (vm₁ : Vm) (B : Pt), s.WarmedH vm₁ ∧ Stand p l e R s m args below meth c B.U B.locs B.cells B.slots ∧ Post ⟨T.setVm vm₁, locs, cells, slots⟩ argsL.toArray v B ∧
      ∀ target, Steps p.tables e below (B.U.setTop { g with pc := g.pc + 3, stack := v.toList ++ rest }) target → Steps p.tables e below (T.setTop g) target) ∨
    (∃ (q : Addr) (vm₁ : Vm) (B : Pt), s.WarmedH vm₁ ∧ Stand p l e R s m args below meth c B.U B.locs B.cells B.slots ∧ PostX ⟨T.setVm vm₁, locs, cells, slots⟩ argsL.toArray q B ∧
      Steps p.tables e below (T.setTop g) ((B.U.setTop { g with stack := rest }).pushFrame (.throwing q))) := by
  obtain ⟨mk, hnamed⟩ := Cond.code_named hcode
  obtain ⟨methM, cM, hmethM, -, -, -, -, -, -, hsigM⟩ := Cond.code_spec hnamed hcode
  have hstatic : methM.isStatic = true := Cond.static_spec hnamed hmethM hstat
  obtain ⟨kP, hkP, -⟩ := className_of_methodNamed hnamed
  have hinitP : kP.init = .initialized := Cond.initialized_spec (findClass_of_methodNamed hnamed) hkP hinit
  obtain ⟨vm₁, X₁, hstep₁⟩ := X.invokestatic hexec hown hlink hnamed hmethM hstatic hkP hinitP hy (g := g) hg (argsL := argsL) (rest := rest) (hlen _ hsigM) hstack hdg
  rcases hK m meth c ⟨T.setVm vm₁, locs, cells, slots⟩ { g with stack := rest } (.invokestatic index) mk argsL.toArray X₁ hg hsize hdg hW (X₁.named hnamed) (hpre vm₁ X₁.warmed) with ⟨v, B, X', hpost, hsteps⟩ | ⟨q, B, X', hpost, hsteps⟩
  · exact Or.inl ⟨v, vm₁, B, X₁.warmed, X', hpost, fun target h => hstep₁ _ fun acts => by rw [doInvoke_state]; exact hsteps.trans h⟩
  · exact Or.inr ⟨q, vm₁, B, X₁.warmed, X', hpost, hstep₁ _ fun acts => by rw [doInvoke_state]; exact hsteps⟩
end Calls
theorem vx_cls {s : State} {T : State} {vm₁ : Vm} {E : String} {k : ClassId} (hW : s.WarmedH vm₁) (h : (T.setVm vm₁).vm.findClass E = some k) : s.vm.findClass E = some k := by
  have h1 : vm₁.findClass E = some k := h
  rw [hW.alike.findClass] at h1
  exact h1
/-- the method's frame g, with q thrown over it -/
def vx_W (p : Program) (l : Launch) (e : Env) (R : Room) (s : State) (m : MethodId) (args : Array Value) (below : List Frame) (meth : Method) (c : Code) (H : Heap) (locs : List Loc) (cells slots : Nat) (Q : State → Prop) (g : JFrame) (q : Addr) : Prop :=
  ∀ T : State, T.heap = H → Stand p l e R s m args below meth c T locs cells slots → ∃ t, Steps p.tables e below ((T.setTop g).pushFrame (.throwing q)) t ∧ Q t
def vx_Run (p : Program) (l : Launch) (e : Env) (R : Room) (s : State) (m : MethodId) (args : Array Value) (below : List Frame) (meth : Method) (c : Code) (H : Heap) (locs : List Loc) (cells slots mc ms : Nat) (g : JFrame) (rest : List Value) (Qa : State → Outcome → State → Prop) (XC : String → State → State → Prop) (free : Addr → Prop) : Prop :=
  ∀ T : State, T.heap = H → Stand p l e R s m args below meth c T locs cells slots →
    (∃ (v : Option Value) (st₀ t T' : State) (L : List Loc), st₀.heap = H ∧ Stand p l e R s m args below meth c T' (locs ++ L) (cells + mc) (slots + ms) ∧ (∀ q ∈ L, free q.base) ∧ T'.heap = t.heap ∧ T'.vm = t.vm ∧ Qa st₀ (.returned v) t ∧
      Goes p e below T g T' { g with pc := g.pc + 3, stack := v.toList ++ rest }) ∨
    (∃ (q : Addr) (st₀ t T' : State) (L : List Loc) (E : String) (ce : Cell), st₀.heap = H ∧ Stand p l e R s m args below meth c T' (locs ++ L) (cells + mc) (slots + ms) ∧ (∀ z ∈ L, free z.base) ∧ T'.heap = t.heap ∧ T'.vm = t.vm ∧ XC E st₀ t ∧ t.heap[q]? = some ce ∧ ce.vm = .none ∧ s.vm.findClass E = some ce.cls ∧
      Steps p.tables e below (T.setTop g) ((T'.setTop { g with stack := rest }).pushFrame (.throwing q)))
def vx_X {S : Type} (px : S → Prop) (B : String → S → State → Prop) (A : Nat → Prop) : String → State → State → Prop := fun E st t => ∃ u : S, px u ∧ B E u t ∧ va_F A st t
section Runs
variable {p : Program} {l : Launch} {e : Env} {R : Room} {s : State} {m : MethodId} {args : Array Value} {below : List Frame} {meth : Method} {c : Code} {H : Heap} {locs : List Loc} {cells slots : Nat}
variable {y : MethodName} {bytes cc : ByteArray} {maxL nL mc ms n index : Nat} {ret : Option FieldType} {ws : List Cond} {rm : Room} {Pc : Array Value → State → Prop} {Qc : Array Value → State → Outcome → State → Prop} {XC : String → State → State → Prop} {free : Addr → Prop} {Ts : List Cond} {own C : String} {b : Addr} {As rest : List Value} {g : JFrame}
theorem vx_callBack (cb : CallB R s args own index y bytes maxL ret ws rm mc ms n) (hM : vx_Met l y ws rm Pc Qc XC mc ms free) (hbl : FrameBlind Pc) : vx_Back l R p e below s args y 3 8 (PreOf R mc ms Pc) (PostOf Qc mc ms free) (vx_Post XC mc ms free) := by
  obtain ⟨hrc, hrs, hfr, hlo, hws, hcw, -, hini, -⟩ := cb
  exact vx_back (bytes := bytes) (maxL := maxL) (ret := ret) hM hbl hrc hrs hfr hlo hws hcw (fun a' U hW => word_at hW (Or.inl (by first | rfl | simp [Cond.onTables, Cond.keeps, Cond.steady])) hini)
theorem vx_runV (S : CallFix p m c cc nL s args Ts own) (hM : vx_Met l y ws rm Pc Qc XC mc ms free) (cw : CallW R s args own C index y bytes maxL ret ws rm mc ms n) (hp : PreV s H C b Pc As)
    (hg : g.method = m) (hn : As.length = n) (hsize : g.locals.size = nL) (hstack : g.stack = As.reverse ++ .ref b :: rest) (hW : 2 * g.monitorRoom + (rest.map fun v => v.category).sum ≤ 8) (hdg : decode cc g.pc = .ok (.invokevirtual index, 3)) (hf : cells + mc ≤ R.cells ∧ slots + ms ≤ R.slots) :
    vx_Run p l e R s m args below meth c H locs cells slots mc ms g rest (Qc (Value.ref b :: As).toArray) XC free := by
  have hK : vx_Back l R p e below s args y 3 8 (PreOf R mc ms Pc) (PostOf Qc mc ms free) (vx_Post XC mc ms free) := vx_callBack cw.1 hM hp.1
  obtain ⟨⟨-, -, -, -, -, -, hcode, -, hy, hlen, hl⟩, hin, hse⟩ := cw
  obtain ⟨hx, hb, hml, ho, -⟩ := S
  obtain ⟨-, ⟨cellB, hcB, hoB, hclB⟩, hPc⟩ := hp
  intro T hT X
  rcases vx_callV X hx (C := C) (bytes := bytes) (maxL := maxL) (ret := ret) ho hl hin hse hcode hy hK (by rw [hT]; exact hcB) hoB hclB hg (hsize.trans hml.symm) (argsL := As) (rest := rest) (fun sig h => hn.trans (hlen sig h)) hstack hW (by rw [hb]; exact hdg)
    (fun vm₁ hW₁ => ⟨hf.1, hf.2, hPc (T.setVm vm₁) hT hW₁⟩) with ⟨v, vm₁, ⟨U', l2, c2, s2⟩, hW₁, X', ⟨g', mk, t, L, e1, e2, hq, h1, hL, h2, h3⟩, st⟩ | ⟨q, vm₁, ⟨U', l2, c2, s2⟩, hW₁, X', ⟨g', mk, t, L, E, ce, e1, e2, hq, hce, hcv, hcl, h1, hL, h2, h3⟩, st⟩
  · dsimp only [Pt.U, Pt.locs, Pt.cells, Pt.slots] at X' e1 e2 h1 h2 h3 st
    subst h1; subst h2; subst h3
    exact Or.inl ⟨v, (T.setVm vm₁).calling g' mk (Value.ref b :: As).toArray, t, U', L, hT, X', hL, e1, e2, hq, st⟩
  · dsimp only [Pt.U, Pt.locs, Pt.cells, Pt.slots] at X' e1 e2 h1 h2 h3 st hcl
    subst h1; subst h2; subst h3
    exact Or.inr ⟨q, (T.setVm vm₁).calling g' mk (Value.ref b :: As).toArray, t, U', L, E, ce, hT, X', hL, e1, e2, hq, hce, hcv, vx_cls hW₁ hcl, st⟩
theorem vx_runS (S : CallFix p m c cc nL s args Ts own) (hM : vx_Met l y ws rm Pc Qc XC mc ms free) (cw : CallB R s args own index y bytes maxL ret ws rm mc ms n ∧ (Cond.static y).before args s = true) (hp : PreS s H Pc As)
    (hg : g.method = m) (hn : As.length = n) (hsize : g.locals.size = nL) (hstack : g.stack = As.reverse ++ rest) (hW : 2 * g.monitorRoom + (rest.map fun v => v.category).sum ≤ 8) (hdg : decode cc g.pc = .ok (.invokestatic index, 3)) (hf : cells + mc ≤ R.cells ∧ slots + ms ≤ R.slots) :
    vx_Run p l e R s m args below meth c H locs cells slots mc ms g rest (Qc As.toArray) XC free := by
  have hK : vx_Back l R p e below s args y 3 8 (PreOf R mc ms Pc) (PostOf Qc mc ms free) (vx_Post XC mc ms free) := vx_callBack cw.1 hM hp.1
  obtain ⟨⟨-, -, -, -, -, -, hcode, hini, hy, hlen, hl⟩, hstt⟩ := cw
  obtain ⟨hx, hb, hml, ho, -⟩ := S
  intro T hT X
  rcases vx_callS X hx (bytes := bytes) (maxL := maxL) (ret := ret) ho hl hstt hini hcode hy hK hg (hsize.trans hml.symm) (argsL := As) (rest := rest) (fun sig h => hn.trans (hlen sig h)) hstack hW (by rw [hb]; exact hdg)
    (fun vm₁ hW₁ => ⟨hf.1, hf.2, hp.2 (T.setVm vm₁) hT hW₁⟩) with ⟨v, vm₁, ⟨U', l2, c2, s2⟩, hW₁, X', ⟨g', mk, t, L, e1, e2, hq, h1, hL, h2, h3⟩, st⟩ | ⟨q, vm₁, ⟨U', l2, c2, s2⟩, hW₁, X', ⟨g', mk, t, L, E, ce, e1, e2, hq, hce, hcv, hcl, h1, hL, h2, h3⟩, st⟩
  · dsimp only [Pt.U, Pt.locs, Pt.cells, Pt.slots] at X' e1 e2 h1 h2 h3 st
    subst h1; subst h2; subst h3
    exact Or.inl ⟨v, (T.setVm vm₁).calling g' mk As.toArray, t, U', L, hT, X', hL, e1, e2, hq, st⟩
  · dsimp only [Pt.U, Pt.locs, Pt.cells, Pt.slots] at X' e1 e2 h1 h2 h3 st hcl
    subst h1; subst h2; subst h3
    exact Or.inr ⟨q, (T.setVm vm₁).calling g' mk As.toArray, t, U', L, E, ce, hT, X', hL, e1, e2, hq, hce, hcv, vx_cls hW₁ hcl, st⟩
end Runs
section Rows
variable {p : Program} {l : Launch} {e : Env} {R : Room} {s : State} {m : MethodId} {args : Array Value} {below : List Frame} {meth : Method} {c : Code} {H : Heap} {locs : List Loc} {cells slots : Nat} {Q : State → Prop}
variable {mc ms : Nat} {free : Addr → Prop} {A0 A1 : Nat → Prop} {H0 : Heap} {a : Array Value} {pc : Nat} {ls : Array Slot} {st0 rest : List Value}
theorem vx_keep {st₀ t T' : State} {L : List Loc} (h0 : st₀.heap = H) (e1 : T'.heap = t.heap) (hS : va_S A0 H0 H locs) (hA : ∀ q, q < H.size → A1 q → A0 q) (hf : ∀ q, free q → A0 q) (hL : ∀ q ∈ L, free q.base) (hF : va_F A1 st₀ t) :
    H.size ≤ T'.heap.size ∧ (∀ q : Nat, q < H.size → ¬ A1 q → T'.heap[q]? = H[q]?) ∧ va_S A0 H0 T'.heap (locs ++ L) := by
  obtain ⟨hz, hk⟩ := hF
  rw [h0] at hz hk
  exact ⟨by rw [e1]; exact hz, fun q h1 h2 => by rw [e1]; exact hk q h1 h2,
    ⟨Nat.le_trans hS.1 (by rw [e1]; exact hz), fun q h1 h2 => by rw [e1, hk q (Nat.lt_of_lt_of_le h1 hS.1) (fun z => h2 (hA q (Nat.lt_of_lt_of_le h1 hS.1) z))]; exact hS.2.1 q h1 h2, fun q hq => by
      rcases List.mem_append.mp hq with h | h
      · exact hS.2.2 q h
      · exact hf _ (hL q h)⟩⟩
theorem vx_calli {S SX : Type} {post : Int32 → S → Prop} {px : SX → Prop} {B : S → State → Prop} {BX : String → SX → State → Prop} {AX : Nat → Prop} (hr : vx_Run p l e R s m args below meth c H locs cells slots mc ms (F0 m pc ls st0) rest (va_Qi post B A1 a) (vx_X px BX AX) free) (hS : va_S A0 H0 H locs) (hA : ∀ q, q < H.size → A1 q → A0 q) (hf : ∀ q, free q → A0 q) (hAX : ∀ q, q < H.size → AX q → A0 q)
    (kx : ∀ (E : String) (ce : Cell) (q9 : Addr) (u : SX) (t : State) (H1 : Heap) (locs1 : List Loc), t.heap = H1 → s.vm.Alike t.vm → px u → BX E u t → H.size ≤ H1.size → (∀ q : Nat, q < H.size → ¬ AX q → H1[q]? = H[q]?) → va_S A0 H0 H1 locs1 → H1[q9]? = some ce → ce.vm = .none → s.vm.findClass E = some ce.cls → vx_W p l e R s m args below meth c H1 locs1 (cells + mc) (slots + ms) Q (F0 m pc ls rest) q9)
    (kk : ∀ (r : Int32) (u : S) (t : State) (H1 : Heap) (locs1 : List Loc), t.heap = H1 → s.vm.Alike t.vm → post r u → B u t → H.size ≤ H1.size → (∀ q : Nat, q < H.size → ¬ A1 q → H1[q]? = H[q]?) → va_S A0 H0 H1 locs1 → W p l e R s m args below meth c H1 locs1 (cells + mc) (slots + ms) Q (F0 m (pc + 3) ls (.int r :: rest))) : W p l e R s m args below meth c H locs cells slots Q (F0 m pc ls st0) := by
  intro T hT X
  rcases hr T hT X with ⟨v, st₀, t, T', L, h0, X', hL, e1, e2, ⟨⟨r, u, hv, hp, hb⟩, hF⟩, st⟩ | ⟨q, st₀, t, T', L, E, ce, h0, X', hL, e1, e2, ⟨u, hp, hb, hF⟩, hce, hcv, hcl, st⟩
  · cases hv
    obtain ⟨k1, k2, k3⟩ := vx_keep h0 e1 hS hA hf hL hF
    obtain ⟨t2, a1, b1⟩ := kk r u t T'.heap (locs ++ L) e1.symm (by rw [← e2]; exact X'.warmed.alike) hp hb k1 k2 k3 T' rfl X'
    exact ⟨t2, st t2 a1, b1⟩
  · obtain ⟨k1, k2, k3⟩ := vx_keep h0 e1 hS hAX hf hL hF
    obtain ⟨t2, a1, b1⟩ := kx E ce q u t T'.heap (locs ++ L) e1.symm (by rw [← e2]; exact X'.warmed.alike) hp hb k1 k2 k3 (by rw [e1]; exact hce) hcv hcl T' rfl X'
    exact ⟨t2, st.trans a1, b1⟩
theorem vx_calll {S SX : Type} {post : Int64 → S → Prop} {px : SX → Prop} {B : S → State → Prop} {BX : String → SX → State → Prop} {AX : Nat → Prop} (hr : vx_Run p l e R s m args below meth c H locs cells slots mc ms (F0 m pc ls st0) rest (va_Ql post B A1 a) (vx_X px BX AX) free) (hS : va_S A0 H0 H locs) (hA : ∀ q, q < H.size → A1 q → A0 q) (hf : ∀ q, free q → A0 q) (hAX : ∀ q, q < H.size → AX q → A0 q)
    (kx : ∀ (E : String) (ce : Cell) (q9 : Addr) (u : SX) (t : State) (H1 : Heap) (locs1 : List Loc), t.heap = H1 → s.vm.Alike t.vm → px u → BX E u t → H.size ≤ H1.size → (∀ q : Nat, q < H.size → ¬ AX q → H1[q]? = H[q]?) → va_S A0 H0 H1 locs1 → H1[q9]? = some ce → ce.vm = .none → s.vm.findClass E = some ce.cls → vx_W p l e R s m args below meth c H1 locs1 (cells + mc) (slots + ms) Q (F0 m pc ls rest) q9)
    (kk : ∀ (r : Int64) (u : S) (t : State) (H1 : Heap) (locs1 : List Loc), t.heap = H1 → s.vm.Alike t.vm → post r u → B u t → H.size ≤ H1.size → (∀ q : Nat, q < H.size → ¬ A1 q → H1[q]? = H[q]?) → va_S A0 H0 H1 locs1 → W p l e R s m args below meth c H1 locs1 (cells + mc) (slots + ms) Q (F0 m (pc + 3) ls (.long r :: rest))) : W p l e R s m args below meth c H locs cells slots Q (F0 m pc ls st0) := by
  intro T hT X
  rcases hr T hT X with ⟨v, st₀, t, T', L, h0, X', hL, e1, e2, ⟨⟨r, u, hv, hp, hb⟩, hF⟩, st⟩ | ⟨q, st₀, t, T', L, E, ce, h0, X', hL, e1, e2, ⟨u, hp, hb, hF⟩, hce, hcv, hcl, st⟩
  · cases hv
    obtain ⟨k1, k2, k3⟩ := vx_keep h0 e1 hS hA hf hL hF
    obtain ⟨t2, a1, b1⟩ := kk r u t T'.heap (locs ++ L) e1.symm (by rw [← e2]; exact X'.warmed.alike) hp hb k1 k2 k3 T' rfl X'
    exact ⟨t2, st t2 a1, b1⟩
  · obtain ⟨k1, k2, k3⟩ := vx_keep h0 e1 hS hAX hf hL hF
    obtain ⟨t2, a1, b1⟩ := kx E ce q u t T'.heap (locs ++ L) e1.symm (by rw [← e2]; exact X'.warmed.alike) hp hb k1 k2 k3 (by rw [e1]; exact hce) hcv hcl T' rfl X'
    exact ⟨t2, st.trans a1, b1⟩
theorem vx_callf {S SX : Type} {post : UInt32 → S → Prop} {px : SX → Prop} {B : S → State → Prop} {BX : String → SX → State → Prop} {AX : Nat → Prop} (hr : vx_Run p l e R s m args below meth c H locs cells slots mc ms (F0 m pc ls st0) rest (va_Qf post B A1 a) (vx_X px BX AX) free) (hS : va_S A0 H0 H locs) (hA : ∀ q, q < H.size → A1 q → A0 q) (hf : ∀ q, free q → A0 q) (hAX : ∀ q, q < H.size → AX q → A0 q)
    (kx : ∀ (E : String) (ce : Cell) (q9 : Addr) (u : SX) (t : State) (H1 : Heap) (locs1 : List Loc), t.heap = H1 → s.vm.Alike t.vm → px u → BX E u t → H.size ≤ H1.size → (∀ q : Nat, q < H.size → ¬ AX q → H1[q]? = H[q]?) → va_S A0 H0 H1 locs1 → H1[q9]? = some ce → ce.vm = .none → s.vm.findClass E = some ce.cls → vx_W p l e R s m args below meth c H1 locs1 (cells + mc) (slots + ms) Q (F0 m pc ls rest) q9)
    (kk : ∀ (r : UInt32) (u : S) (t : State) (H1 : Heap) (locs1 : List Loc), t.heap = H1 → s.vm.Alike t.vm → post r u → B u t → H.size ≤ H1.size → (∀ q : Nat, q < H.size → ¬ A1 q → H1[q]? = H[q]?) → va_S A0 H0 H1 locs1 → W p l e R s m args below meth c H1 locs1 (cells + mc) (slots + ms) Q (F0 m (pc + 3) ls (.float r :: rest))) : W p l e R s m args below meth c H locs cells slots Q (F0 m pc ls st0) := by
  intro T hT X
  rcases hr T hT X with ⟨v, st₀, t, T', L, h0, X', hL, e1, e2, ⟨⟨r, u, hv, hp, hb⟩, hF⟩, st⟩ | ⟨q, st₀, t, T', L, E, ce, h0, X', hL, e1, e2, ⟨u, hp, hb, hF⟩, hce, hcv, hcl, st⟩
  · cases hv
    obtain ⟨k1, k2, k3⟩ := vx_keep h0 e1 hS hA hf hL hF
    obtain ⟨t2, a1, b1⟩ := kk r u t T'.heap (locs ++ L) e1.symm (by rw [← e2]; exact X'.warmed.alike) hp hb k1 k2 k3 T' rfl X'
    exact ⟨t2, st t2 a1, b1⟩
  · obtain ⟨k1, k2, k3⟩ := vx_keep h0 e1 hS hAX hf hL hF
    obtain ⟨t2, a1, b1⟩ := kx E ce q u t T'.heap (locs ++ L) e1.symm (by rw [← e2]; exact X'.warmed.alike) hp hb k1 k2 k3 (by rw [e1]; exact hce) hcv hcl T' rfl X'
    exact ⟨t2, st.trans a1, b1⟩
theorem vx_calld {S SX : Type} {post : UInt64 → S → Prop} {px : SX → Prop} {B : S → State → Prop} {BX : String → SX → State → Prop} {AX : Nat → Prop} (hr : vx_Run p l e R s m args below meth c H locs cells slots mc ms (F0 m pc ls st0) rest (va_Qd post B A1 a) (vx_X px BX AX) free) (hS : va_S A0 H0 H locs) (hA : ∀ q, q < H.size → A1 q → A0 q) (hf : ∀ q, free q → A0 q) (hAX : ∀ q, q < H.size → AX q → A0 q)
    (kx : ∀ (E : String) (ce : Cell) (q9 : Addr) (u : SX) (t : State) (H1 : Heap) (locs1 : List Loc), t.heap = H1 → s.vm.Alike t.vm → px u → BX E u t → H.size ≤ H1.size → (∀ q : Nat, q < H.size → ¬ AX q → H1[q]? = H[q]?) → va_S A0 H0 H1 locs1 → H1[q9]? = some ce → ce.vm = .none → s.vm.findClass E = some ce.cls → vx_W p l e R s m args below meth c H1 locs1 (cells + mc) (slots + ms) Q (F0 m pc ls rest) q9)
    (kk : ∀ (r : UInt64) (u : S) (t : State) (H1 : Heap) (locs1 : List Loc), t.heap = H1 → s.vm.Alike t.vm → post r u → B u t → H.size ≤ H1.size → (∀ q : Nat, q < H.size → ¬ A1 q → H1[q]? = H[q]?) → va_S A0 H0 H1 locs1 → W p l e R s m args below meth c H1 locs1 (cells + mc) (slots + ms) Q (F0 m (pc + 3) ls (.double r :: rest))) : W p l e R s m args below meth c H locs cells slots Q (F0 m pc ls st0) := by
  intro T hT X
  rcases hr T hT X with ⟨v, st₀, t, T', L, h0, X', hL, e1, e2, ⟨⟨r, u, hv, hp, hb⟩, hF⟩, st⟩ | ⟨q, st₀, t, T', L, E, ce, h0, X', hL, e1, e2, ⟨u, hp, hb, hF⟩, hce, hcv, hcl, st⟩
  · cases hv
    obtain ⟨k1, k2, k3⟩ := vx_keep h0 e1 hS hA hf hL hF
    obtain ⟨t2, a1, b1⟩ := kk r u t T'.heap (locs ++ L) e1.symm (by rw [← e2]; exact X'.warmed.alike) hp hb k1 k2 k3 T' rfl X'
    exact ⟨t2, st t2 a1, b1⟩
  · obtain ⟨k1, k2, k3⟩ := vx_keep h0 e1 hS hAX hf hL hF
    obtain ⟨t2, a1, b1⟩ := kx E ce q u t T'.heap (locs ++ L) e1.symm (by rw [← e2]; exact X'.warmed.alike) hp hb k1 k2 k3 (by rw [e1]; exact hce) hcv hcl T' rfl X'
    exact ⟨t2, st.trans a1, b1⟩
theorem vx_callv {S SX : Type} {post : S → Prop} {px : SX → Prop} {B : S → State → Prop} {BX : String → SX → State → Prop} {AX : Nat → Prop} (hr : vx_Run p l e R s m args below meth c H locs cells slots mc ms (F0 m pc ls st0) rest (va_Qv post B A1 a) (vx_X px BX AX) free) (hS : va_S A0 H0 H locs) (hA : ∀ q, q < H.size → A1 q → A0 q) (hf : ∀ q, free q → A0 q) (hAX : ∀ q, q < H.size → AX q → A0 q)
    (kx : ∀ (E : String) (ce : Cell) (q9 : Addr) (u : SX) (t : State) (H1 : Heap) (locs1 : List Loc), t.heap = H1 → s.vm.Alike t.vm → px u → BX E u t → H.size ≤ H1.size → (∀ q : Nat, q < H.size → ¬ AX q → H1[q]? = H[q]?) → va_S A0 H0 H1 locs1 → H1[q9]? = some ce → ce.vm = .none → s.vm.findClass E = some ce.cls → vx_W p l e R s m args below meth c H1 locs1 (cells + mc) (slots + ms) Q (F0 m pc ls rest) q9)
    (kk : ∀ (u : S) (t : State) (H1 : Heap) (locs1 : List Loc), t.heap = H1 → s.vm.Alike t.vm → post u → B u t → H.size ≤ H1.size → (∀ q : Nat, q < H.size → ¬ A1 q → H1[q]? = H[q]?) → va_S A0 H0 H1 locs1 → W p l e R s m args below meth c H1 locs1 (cells + mc) (slots + ms) Q (F0 m (pc + 3) ls (rest))) : W p l e R s m args below meth c H locs cells slots Q (F0 m pc ls st0) := by
  intro T hT X
  rcases hr T hT X with ⟨v, st₀, t, T', L, h0, X', hL, e1, e2, ⟨⟨u, hv, hp, hb⟩, hF⟩, st⟩ | ⟨q, st₀, t, T', L, E, ce, h0, X', hL, e1, e2, ⟨u, hp, hb, hF⟩, hce, hcv, hcl, st⟩
  · cases hv
    obtain ⟨k1, k2, k3⟩ := vx_keep h0 e1 hS hA hf hL hF
    obtain ⟨t2, a1, b1⟩ := kk u t T'.heap (locs ++ L) e1.symm (by rw [← e2]; exact X'.warmed.alike) hp hb k1 k2 k3 T' rfl X'
    exact ⟨t2, st t2 a1, b1⟩
  · obtain ⟨k1, k2, k3⟩ := vx_keep h0 e1 hS hAX hf hL hF
    obtain ⟨t2, a1, b1⟩ := kx E ce q u t T'.heap (locs ++ L) e1.symm (by rw [← e2]; exact X'.warmed.alike) hp hb k1 k2 k3 (by rw [e1]; exact hce) hcv hcl T' rfl X'
    exact ⟨t2, st.trans a1, b1⟩
/-- caught by the row x of this method's table; the rows ahead don't take it -/
theorem vx_catch {own name : String} {E : String} {ce : Cell} {q : Addr} (hown : s.vm.findClass own = some m.cls) (pre : List ExceptionTableEntry) (x : ExceptionTableEntry) (suf : List ExceptionTableEntry) (hsplit : c.exceptionTable.toList = pre ++ x :: suf)
    (hpass : ∀ z ∈ pre, covers z pc = false ∨ (z.catchType ≠ 0 ∧ ∃ nm : String, (Cond.classLink own z.catchType nm).before args s = true ∧ va_Nc E nm s)) (hx : covers x pc = true) (h0 : x.catchType ≠ 0)
    (hlink : (Cond.classLink own x.catchType name).before args s = true) (hcast : (Cond.castable E name).before args s = true) (hcell : H[q]? = some ce) (hv : ce.vm = .none) (hcl : s.vm.findClass E = some ce.cls)
    (kk : W p l e R s m args below meth c H locs cells slots Q (F0 m x.handlerPc ls [.ref q])) : vx_W p l e R s m args below meth c H locs cells slots Q (F0 m pc ls rest) q := by
  intro T hT X
  have hpl : e.platform.magicAccessors = ({} : Platform).magicAccessors := by rw [X.admits.platform]
  obtain ⟨c3, c4, hc3, hc4, hasg⟩ := Cond.castable_spec hcast
  cases Option.some.inj (hc3.symm.trans hcl)
  obtain ⟨c5, hc5, hcl5⟩ := Cond.classLink_spec hown hlink e.platform hpl
  cases Option.some.inj (hc4.symm.trans hc5)
  obtain ⟨vm', X', st⟩ := X.thenCaughtThrough q (g := F0 m pc ls rest) rfl (Steps.refl _) (by rw [hT]; exact hcell) (by rw [hv]; rfl) (by obtain ⟨k9, h9, -⟩ := Vm.findClass_spec hcl; exact ⟨k9, h9⟩) pre x suf hsplit
    (fun z hz => by
      rcases hpass z hz with h | ⟨hz0, nm, hl1, hn1⟩
      · exact Or.inl h
      · obtain ⟨c6, hc6, hcl6⟩ := Cond.classLink_spec hown hl1 e.platform hpl
        obtain ⟨a8, b8, h1, h2, h3⟩ := hn1
        cases Option.some.inj (h1.symm.trans hcl)
        cases Option.some.inj (h2.symm.trans hc6)
        exact Or.inr ⟨hz0, _, hcl6, h3⟩) hx (Or.inr ⟨h0, c4, hcl5, hasg⟩)
  obtain ⟨t, a1, b1⟩ := kk (T.setVm vm') hT X'
  exact ⟨t, st.trans a1, b1⟩
end Rows
section Ends
variable {p : Program} {l : Launch} {e : Env} {R : Room} {s : State} {m : MethodId} {args : Array Value} {below : List Frame} {meth : Method} {c : Code} {H : Heap} {locs : List Loc} {cells slots : Nat} {Q : State → Prop}
variable {mc ms : Nat} {free : Addr → Prop} {A0 A1 : Nat → Prop} {H0 : Heap} {a : Array Value} {ls : Array Slot} {st0 rest : List Value}
variable {Qc : Array Value → State → Outcome → State → Prop} {XC : String → State → State → Prop}
/-- what a body that may throw owes at its end -/
def vx_MQ (below : List Frame) (Qc : Array Value → State → Outcome → State → Prop) (XC : String → State → State → Prop) (a : Array Value) (s : State) (mc ms : Nat) (free : Addr → Prop) : State → Prop := fun t =>
  ∃ o, t.status = .running ∧ Ended t below o ∧ vx_Q Qc XC mc ms free a s o t
theorem vx_ret {g : JFrame} {mc ms : Nat} (k : W p l e R s m args below meth c H locs cells slots (MQ below Qc args s mc ms free) g) : W p l e R s m args below meth c H locs cells slots (vx_MQ below Qc XC args s mc ms free) g := by
  intro T hT X
  obtain ⟨t, a1, o, b1, b2, b3, b4⟩ := k T hT X
  exact ⟨t, a1, o, b1, b2, Or.inl ⟨b3, b4⟩⟩
/-- not caught here: it goes on to the caller -/
theorem vx_widen {g : JFrame} {q : Addr} {k n : Nat} (h1 : cells ≤ k) (h2 : slots ≤ n) (kk : vx_W p l e R s m args below meth c H locs k n Q g q) : vx_W p l e R s m args below meth c H locs cells slots Q g q := fun T hT X => kk T hT (stand_widen X h1 h2)
theorem vx_out {pc : Nat} {E : String} {ce : Cell} {q : Addr} {mc ms : Nat} (hout : ∀ x ∈ c.exceptionTable.toList, covers x pc = false) (hlocks : meth.locks = false) (hcell : H[q]? = some ce) (hv : ce.vm = .none) (hcl : s.vm.findClass E = some ce.cls)
    (hx : ∀ t : State, t.heap = H → s.vm.Alike t.vm → XC E s t) (hf : ∀ z ∈ locs, free z.base) (hc : cells ≤ mc) (hs : slots ≤ ms) :
    vx_W p l e R s m args below meth c H locs cells slots (vx_MQ below Qc XC args s mc ms free) (F0 m pc ls rest) q := by
  intro T hT X
  obtain ⟨st1, hrun, hend, hW, hsm⟩ := X.leaveThrown q (g := F0 m pc ls rest) rfl rfl rfl hout hlocks
  have hcell9 : (T.setFrames (.throwing q :: below)).heap[q]? = some ce := by
    show T.heap[q]? = some ce
    rw [hT]; exact hcell
  exact ⟨_, st1, .threw q, hrun, hend, Or.inr ⟨q, rfl, E, ce, locs, hx _ hT hW.alike, hcell9, hv, hcl, hW, hsm.mono hc hs, hf⟩⟩
theorem vx_frame {U : State} {k n : Nat} (h : s.sameButNew ({ U with vm := s.vm } : State) locs k n) : s.heap.size ≤ U.heap.size ∧ ∀ q : Nat, q < s.heap.size → (∀ z ∈ locs, z.base ≠ q) → U.heap[q]? = s.heap[q]? := by
  obtain ⟨-, h2, -, -, -, h6⟩ := h
  refine ⟨h2, fun q hq hz => ?_⟩
  obtain ⟨c9, e1, e2, e3, e4⟩ := h6 q _ (Array.getElem?_eq_getElem hq)
  have hs : c9.slots = (s.heap[q]).slots := Array.ext_getElem? fun i => e4 i fun hm => hz _ hm rfl
  have h9 : c9 = s.heap[q] := by
    rw [hs] at e2
    exact e2
  have e5 : U.heap[q]? = some c9 := e1
  rw [e5, h9, Array.getElem?_eq_getElem hq]
/-- the words of a throw but the four that speak of the heap -/
def vx_no (w : Cond) : Bool := decide (w ≠ .isRef (.static Bundle.tN "UNASSIGNED_STACK" Bundle.steD)) && decide (w ≠ .isRef (.static Bundle.tN "SUPPRESSED_SENTINEL" Bundle.listD)) && decide (w ≠ .laysStatic Bundle.tN "UNASSIGNED_STACK" Bundle.steD) && decide (w ≠ .laysStatic Bundle.tN "SUPPRESSED_SENTINEL" Bundle.listD)
def vx_at0 (own : String) (ic : Nat) (X : String) (names : List String) : List Cond := (Bundle.ownAtoms0 own ic X names).filter vx_no
def vx_atS (own : String) (ic : Nat) (X : String) (names : List String) : List Cond := (Bundle.ownAtoms own ic X names).filter vx_no
/-- a word that the tables alone decide, or a good one -/
def vx_ot (w : Cond) : Bool := w.onTables || goodWord w
theorem vx_ot_at {args a' : Array Value} {s U : State} {w : Cond} (hW : s.WarmedH U.vm) (hvm : s.vm = U.vm) (hg : vx_ot w = true) (h : w.before args s = true) : w.before a' U = true := by
  simp only [vx_ot, Bool.or_eq_true] at hg
  rcases hg with hg | hg
  · exact va_tabs hg hvm h
  · exact word_at hW (good_of_word hg) h
/-- a list's words: the good ones out of the method's own list, the others by premises of their own -/
theorem vx_hat {args : Array Value} {s : State} {L B : List Cond} (h1 : ∀ w ∈ L.filter goodWord, w.before args s = true) (h2 : ∀ w ∈ L.filter (fun w => !goodWord w), w ∈ B) (h3 : ∀ w ∈ B, w.before args s = true) : ∀ w ∈ L, w.before args s = true := by
  intro w hw
  by_cases g : goodWord w = true
  · exact h1 w (List.mem_filter.mpr ⟨hw, g⟩)
  · refine h3 w (h2 w (List.mem_filter.mpr ⟨hw, ?_⟩))
    show (!goodWord w) = true
    cases hgw : goodWord w
    · rfl
    · exact absurd hgw g
theorem vx_c {args : Array Value} {s : State} {w : Cond} {B : List Cond} (h : w.before args s = true) (t : ∀ w ∈ B, w.before args s = true) : ∀ w' ∈ w :: B, w'.before args s = true := fun w' h' => (List.mem_cons.mp h').elim (fun e => by rw [e]; exact h) (t w')
theorem vx_n {args : Array Value} {s : State} : ∀ w ∈ ([] : List Cond), w.before args s = true := fun _ h => nomatch h
theorem vx_own {args : Array Value} {s : State} {L : List Cond} (h1 : ∀ w ∈ L.filter vx_no, w.before args s = true)
    (hU : (Cond.isRef (.static Bundle.tN "UNASSIGNED_STACK" Bundle.steD)).before args s = true) (hN : (Cond.isRef (.static Bundle.tN "SUPPRESSED_SENTINEL" Bundle.listD)).before args s = true)
    (lU : (Cond.laysStatic Bundle.tN "UNASSIGNED_STACK" Bundle.steD).before args s = true) (lN : (Cond.laysStatic Bundle.tN "SUPPRESSED_SENTINEL" Bundle.listD).before args s = true) : ∀ w ∈ L, w.before args s = true := by
  intro w hw
  by_cases e1 : w = .isRef (.static Bundle.tN "UNASSIGNED_STACK" Bundle.steD)
  · rw [e1]; exact hU
  · by_cases e2 : w = .isRef (.static Bundle.tN "SUPPRESSED_SENTINEL" Bundle.listD)
    · rw [e2]; exact hN
    · by_cases e3 : w = .laysStatic Bundle.tN "UNASSIGNED_STACK" Bundle.steD
      · rw [e3]; exact lU
      · by_cases e4 : w = .laysStatic Bundle.tN "SUPPRESSED_SENTINEL" Bundle.listD
        · rw [e4]; exact lN
        · exact h1 w (List.mem_filter.mpr ⟨hw, by unfold vx_no; rw [decide_eq_true e1, decide_eq_true e2, decide_eq_true e3, decide_eq_true e4]; rfl⟩)
/-- where a static field lies, its class's statics cell in H -/
def vx_L (C n d : String) (A : Nat → Prop) (U : State) (H : Heap) : Prop := ∃ (c : ClassId) (k : Class) (i : Nat) (f : Field) (a : Nat) (cell : Cell), U.vm.findClass C = some c ∧ U.fieldFound? C n d = some (c, k, i, f) ∧ f.isStatic = true ∧ k.statics = some a ∧ H[a]? = some cell ∧ cell.vm.isStatics = true ∧ cell.cls = c ∧ f.slot < cell.slots.size ∧ k.staticTypes[f.slot]? = some f.type ∧ ¬ A a
theorem vx_L.moved {C n d : String} {A : Nat → Prop} {u U : State} {H : Heap} (hvm : u.vm.Alike U.vm) (h : vx_L C n d A u H) : vx_L C n d A U H := by
  obtain ⟨c, k, i, f, a, cell, h1, h2, h3, h4, h5, h6, h7, h8, h9, h10⟩ := h
  obtain ⟨k', hi', he⟩ := State.fieldFound?_setVm hvm h2
  exact ⟨c, k', i, f, a, cell, by rw [hvm.findClass]; exact h1, hi', h3, by rw [he]; exact h4, h5, h6, h7, h8, by rw [he]; exact h9, h10⟩
theorem vx_L.kept {C n d : String} {A : Nat → Prop} {U : State} {H H1 : Heap} (h : vx_L C n d A U H) (hq : ∀ a : Nat, a < H.size → ¬ A a → H1[a]? = H[a]?) : vx_L C n d A U H1 := by
  obtain ⟨c, k, i, f, a, cell, h1, h2, h3, h4, h5, h6, h7, h8, h9, h10⟩ := h
  exact ⟨c, k, i, f, a, cell, h1, h2, h3, h4, by rw [hq a (Array.getElem?_eq_some_iff.mp h5).1 h10]; exact h5, h6, h7, h8, h9, h10⟩
theorem vx_L.narrow {C n d : String} {A B : Nat → Prop} {U : State} {H : Heap} (h : vx_L C n d A U H) (hAB : ∀ q, B q → A q) : vx_L C n d B U H := by
  obtain ⟨c, k, i, f, a, cell, h1, h2, h3, h4, h5, h6, h7, h8, h9, h10⟩ := h
  exact ⟨c, k, i, f, a, cell, h1, h2, h3, h4, h5, h6, h7, h8, h9, fun z => h10 (hAB _ z)⟩
theorem vx_L.word {C n d : String} {A : Nat → Prop} {s : State} {args : Array Value} (h : vx_L C n d A s s.heap) : (Cond.laysStatic C n d).before args s = true := by
  obtain ⟨c, k, i, f, a, cell, h1, h2, h3, h4, h5, h6, h7, h8, h9, -⟩ := h
  show (Cond.laysStatic C n d).holds args s none s [] = true
  exact Cond.laysStatic_of h1 h2 h3 h4 h5 h6 h7 h8 h9
/-- .. and what it holds: null or some reference -/
def vx_Zq (C n d : String) (A : Nat → Prop) (U : State) (H : Heap) : Prop := va_Zq C n d A U H ∧ vx_L C n d A U H
theorem vx_Zq.moved {C n d : String} {A : Nat → Prop} {u U : State} {H : Heap} (hvm : u.vm.Alike U.vm) (h : vx_Zq C n d A u H) : vx_Zq C n d A U H := ⟨va_Zq.moved hvm h.1, vx_L.moved hvm h.2⟩
theorem vx_Zq.kept {C n d : String} {A : Nat → Prop} {U : State} {H H1 : Heap} (h : vx_Zq C n d A U H) (hq : ∀ a : Nat, a < H.size → ¬ A a → H1[a]? = H[a]?) : vx_Zq C n d A U H1 := ⟨va_Zq.kept h.1 hq, vx_L.kept h.2 hq⟩
theorem vx_Zq.narrow {C n d : String} {A B : Nat → Prop} {U : State} {H : Heap} (h : vx_Zq C n d A U H) (hAB : ∀ q, B q → A q) : vx_Zq C n d B U H := ⟨va_Zq.narrow h.1 hAB, vx_L.narrow h.2 hAB⟩
theorem vx_Zqof {args : Array Value} {s : State} {C n d : String} {A : Nat → Prop} (hl : (Cond.laysStatic C n d).before args s = true) (hini : (Cond.initialized C).before args s = true) (h : (Cond.isRef (.static C n d)).before args s = true) (hA : ∀ a : Nat, a < s.heap.size → ¬ A a) : vx_Zq C n d A s s.heap := by
  refine ⟨va_Zqof hl hini h hA, ?_⟩
  obtain ⟨c, k, i, f, a, cell, h1, h2, h3, h4, h5, h6, h7, h8, h9⟩ := Cond.laysStatic_spec hl
  exact ⟨c, k, i, f, a, cell, h1, h2, h3, h4, h5, h6, h7, h8, h9, hA a (Array.getElem?_eq_some_iff.mp h5).1⟩
theorem vx_isRef {C n d : String} {v : Value} {A : Nat → Prop} {s : State} {args : Array Value} (h : va_Z C n d v A s s.heap) (hv : v.isRef = true) : (Cond.isRef (.static C n d)).before args s = true := by
  obtain ⟨cf, kf, fi, f, a, cell, h1, h2, h3, h4, h5, h6, h7, -⟩ := h
  have he : (Term.static C n d).eval args s none [] s = some v := by
    simp [Term.eval, State.fieldNamed?, h1, h2, h4, h5, h6, h7]
  simp only [Cond.before, Cond.holds, Cond.value, he]
  cases v <;> simp_all [Value.isRef]
theorem vx_isRefq {C n d : String} {A : Nat → Prop} {s : State} {args : Array Value} (h : va_Zq C n d A s s.heap) : (Cond.isRef (.static C n d)).before args s = true := by
  rcases h with h | ⟨t, h⟩
  · exact vx_isRef h rfl
  · exact vx_isRef h rfl
/-- the same frame, seen from here: as if the method were called anew in this heap -/
theorem vx_rebase {T : State} (X : Stand p l e R s m args below meth c T locs cells slots) {R' : Room} (hf : R'.frames ≤ R.frames) (hl : R'.locals ≤ R.locals) (hc : cells + R'.cells ≤ R.cells) (hs : slots + R'.slots ≤ R.slots) :
    Stand p l e R' ((T.setVm s.vm).setFrames (.invoking m args :: below)) m args below meth c T [] 0 0 := by
  have htop : (T.setVm s.vm).topJava?.isSome := X.here.top
  have hF : ((T.setVm s.vm).setFrames (.invoking m args :: below)).frames = .invoking m args :: below := State.frames_setFrames _ (State.cur_lt_of_top htop)
  obtain ⟨g₀, hg0⟩ := Option.isSome_iff_exists.mp htop
  obtain ⟨r, hr⟩ := State.topJava?_eq_some.mp hg0
  have hl9 : e.platform.stackLimits (T.setVm s.vm).me = e.platform.stackLimits s.me := X.limits
  have hb9 : (T.setVm s.vm).me.stackBytes = s.me.stackBytes := X.bytes
  refine ⟨X.admits, X.cas, X.clock, hF, ?_, X.hears, X.method, X.code, X.here, X.tail, X.warmed, ?_, ?_, ?_⟩
  · have h := X.room
    have hU : ((T.setVm s.vm).setFrames (.invoking m args :: below)).localsInUse = s.localsInUse := by
      rw [State.localsInUse_invoking hF (meth := meth) (c := c) X.method X.code, State.localsInUse_invoking X.frames X.method X.code]
    simp only [State.hasRoom, Bool.and_eq_true, decide_eq_true_eq] at h ⊢
    obtain ⟨⟨⟨⟨h1, h2, h3, h4, h5, h6⟩, h7⟩, h8⟩, h9⟩ := h
    rw [X.frames, List.length_cons] at h2 h3
    have q1 := X.heapSize
    have q2 := X.used
    simp only [hF, hU, List.length_cons, State.stackLimits_setFrames, State.stackBytes_setFrames, hl9, hb9]
    refine ⟨⟨⟨⟨by omega, by omega, by omega, by omega, by omega, h6⟩, ?_⟩, ?_⟩, X.book⟩
    · show T.heap.size + R'.cells ≤ e.platform.maxCells
      omega
    · show T.slotsUsed + R'.slots ≤ e.platform.maxSlots
      omega
  · rw [State.stackLimits_setFrames]; rfl
  · rw [State.stackBytes_setFrames]; rfl
  · refine ⟨?_, Nat.le_refl _, Nat.le_refl _, ?_, ?_, fun a c9 h9 => ⟨c9, h9, rfl, rfl, fun _ _ => rfl⟩⟩
    · obtain ⟨t, ht, -⟩ := State.frames_cons hr
      show T.setVm s.vm = { ((T.setVm s.vm).setFrames (.invoking m args :: below)).setFrames (T.setVm s.vm).frames with heap := T.heap, slotsUsed := T.slotsUsed }
      rw [State.setFrames_setFrames, State.setFrames_self ht]
      rfl
    · show T.slotsUsed = T.slotsUsed + ((T.heap.toList.drop T.heap.size).map (·.slots.size)).sum
      rw [List.drop_eq_nil_of_le (Nat.le_of_eq Array.length_toList)]
      rfl
    · show ((T.heap.toList.drop T.heap.size).map (·.slots.size)).sum ≤ 0
      rw [List.drop_eq_nil_of_le (Nat.le_of_eq Array.length_toList)]
      exact Nat.le_refl _
/-- 'throw new E()': new; dup; invokespecial; athrow -/
theorem vx_throw0 {cc : ByteArray} {pc : Nat} (hexec : p.tables.exec = Jvm.exec) (hb : c.code = cc) (hl : l.stackTraces = false) {own cls : String} {names : List String} {ik ic mc ms : Nat} {A : Nat → Prop}
    (hown : s.vm.findClass own = some m.cls) (hcls : Bundle.fit cls = true) (hnames : ∀ n ∈ names, Bundle.fit n = true)
    (hk : (Cond.classLink own ik cls).before args s = true) (hini : (Cond.initialized cls).before args s = true) (hat : ∀ w ∈ vx_at0 own ic cls names, w.before args s = true)
    (hgood : ∀ w ∈ Cond.classLink own ik cls :: Cond.initialized cls :: vx_at0 own ic cls names, vx_ot w = true)
    (hU : vx_Zq Bundle.tN "UNASSIGNED_STACK" Bundle.steD A s s.heap) (hN : vx_Zq Bundle.tN "SUPPRESSED_SENTINEL" Bundle.listD A s s.heap) (hS : va_S A s.heap H locs) (hsize : ls.size = c.maxLocals)
    (d0 : decode cc pc = .ok (.new ik, 3)) (d3 : decode cc (pc + 3) = .ok (.dup, 1)) (d4 : decode cc (pc + 4) = .ok (.invokespecial ic, 3)) (d7 : decode cc (pc + 7) = .ok (.athrow, 1))
    (hout : ∀ x ∈ c.exceptionTable.toList, covers x (pc + 7) = false)
    (hRframes : names.length + 3 < R.frames) (hRlocals : (rest.map fun v => v.category).sum + (13 * (names.length + 1) + 42) ≤ R.locals) (hRcells : cells + 1 ≤ R.cells) (hRslots : slots + 6 ≤ R.slots) (hlocks : meth.locks = false)
    (hx : ∀ t : State, s.vm.Alike t.vm → H.size ≤ t.heap.size → (∀ q : Nat, q < H.size → t.heap[q]? = H[q]?) → XC cls s t)
    (hf : ∀ z ∈ locs, free z.base) (hc : cells + 1 ≤ mc) (hs : slots + 6 ≤ ms) :
    W p l e R s m args below meth c H locs cells slots (vx_MQ below Qc XC args s mc ms free) (F0 m pc ls rest) := by
  intro T hT X
  have htr : e.platform.stackTraces = false := (show e.platform.stackTraces = l.stackTraces by rw [X.admits.platform]).trans hl
  have Y := vx_rebase X (R' := { frames := R.frames, locals := R.locals, cells := 1, slots := 6 }) (Nat.le_refl _) (Nat.le_refl _) hRcells hRslots
  obtain ⟨s', hA⟩ : ∃ z, z = (T.setVm s.vm).setFrames (.invoking m args :: below) := ⟨_, rfl⟩
  rw [← hA] at Y
  have hvm : s'.vm = s.vm := by rw [hA]; rfl
  have hhp : s'.heap = H := by rw [hA]; exact hT
  have hW0 : s.WarmedH s'.vm := by rw [hvm]; exact State.WarmedH.refl s
  have hat' : ∀ w ∈ vx_at0 own ic cls names, w.before args s' = true := fun w hw => vx_ot_at hW0 hvm.symm (hgood w (List.mem_cons_of_mem _ (List.mem_cons_of_mem _ hw))) (hat w hw)
  have hk' : (Cond.classLink own ik cls).before args s' = true := vx_ot_at hW0 hvm.symm (hgood _ List.mem_cons_self) hk
  have hini' : (Cond.initialized cls).before args s' = true := vx_ot_at hW0 hvm.symm (hgood _ (List.mem_cons_of_mem _ List.mem_cons_self)) hini
  have hU' : vx_Zq Bundle.tN "UNASSIGNED_STACK" Bundle.steD A s' s'.heap := by rw [hhp]; exact vx_Zq.moved hW0.alike (hU.kept hS.2.1)
  have hN' : vx_Zq Bundle.tN "SUPPRESSED_SENTINEL" Bundle.listD A s' s'.heap := by rw [hhp]; exact vx_Zq.moved hW0.alike (hN.kept hS.2.1)
  have h : ∀ w ∈ Bundle.ownAtoms0 own ic cls names, w.before args s' = true := vx_own hat' (vx_isRefq hU'.1) (vx_isRefq hN'.1) hU'.2.word hN'.2.word
  have hown' : s'.vm.findClass own = some m.cls := by rw [hvm]; exact hown
  have hins : (Cond.instantiable cls 6).before args s' = true := h _ (by simp [Bundle.ownAtoms0])
  obtain ⟨vm₁, cX, kX, hfX, hkX, -, -, X₁, st1⟩ := Y.newCold hexec (own := own) (C := cls) (index := ik) (n := 6) hown' hk' hins hini'
    (g := F0 m pc ls rest) rfl (by rw [hb]; exact d0) (Nat.le_refl _) (Nat.le_refl _)
  generalize hT1 : (T.setVm vm₁).pushCell { cls := cX, slots := kX.instanceTypes.map defaultValue, vm := .none } = T1 at X₁ st1
  have hcat : (Value.ref T.heap.size).category = 1 := rfl
  have hcellA : T1.heap[T.heap.size]? = some (freshCell cX kX) := by rw [← hT1]; exact State.heap_pushCell_size _ _
  have d3' : decode c.code (pc + 3) = .ok (.dup, 1) := by rw [hb]; exact d3
  obtain ⟨U, hsteps, hrun, hend, hW, hsame, ce, hce, hO⟩ := X₁.ctorThrow0 hexec htr (own := own) (cls := cls) (names := names) (ic := ic) hown' hcls hnames h (fun x hx => nomatch hx) hfX hkX hcellA (by rw [hhp, hT]; exact Nat.le_refl _)
    (g := { method := m, pc := pc + 4, locals := ls, stack := .ref T.heap.size :: .ref T.heap.size :: rest, locked := none }) rfl hsize rfl rfl (rest := rest) rfl
    (by rw [hb]; exact d4) (by rw [hb]; exact d7) hout hRframes (by simp only [List.map_cons, List.sum_cons, hcat]; omega) hlocks
  obtain ⟨f1, f2⟩ := vx_frame hsame
  rw [hhp] at f1 f2
  have hWs : s.WarmedH U.vm := State.WarmedH.trans hW0 hW
  have hcl : s.vm.findClass cls = some ce.cls := by
    have h9 := hO.cls
    rw [hvm] at h9
    exact h9
  have hall : s.sameButNew ({ U with vm := s.vm } : State) locs mc ms := by
    subst hA
    obtain ⟨e1, e2⟩ := hsame
    rw [State.setFrames_setFrames] at e1
    have h2 : (T.setVm s.vm).sameButNew ({ U with vm := s.vm } : State) [] (0 + 1) (0 + 6) := ⟨e1, e2⟩
    have h3 := X.same.trans h2
    rw [List.append_nil] at h3
    exact h3.mono hc hs
  refine ⟨U, ?_, .threw T.heap.size, hrun, hend, Or.inr ⟨T.heap.size, rfl, cls, ce, locs, hx U hWs.alike f1 (fun q hq => f2 q hq (fun z hz => nomatch hz)), hce, hO.vm, hcl, hWs, hall, hf⟩⟩
  refine st1 _ ?_
  show Steps p.tables e below (T1.setTop { method := m, pc := pc + 3, locals := ls, stack := .ref T.heap.size :: rest, locked := none }) _
  jvm_step X₁.here [X₁.here.top, hexec, d3', Value.category]
  exact hsteps
/-- 'throw new E("text")': new; dup; ldc; invokespecial; athrow -/
theorem vx_throwS {cc : ByteArray} {pc : Nat} (hexec : p.tables.exec = Jvm.exec) (hb : c.code = cc) (hl : l.stackTraces = false) {own cls text : String} {names : List String} {ik is ic mc ms sa : Nat} {A : Nat → Prop}
    (hown : s.vm.findClass own = some m.cls) (hcls : Bundle.fit cls = true) (hnames : ∀ n ∈ names, Bundle.fit n = true)
    (hk : (Cond.classLink own ik cls).before args s = true) (hini : (Cond.initialized cls).before args s = true) (hstr : vk_R own is text sa s) (hat : ∀ w ∈ vx_atS own ic cls names, w.before args s = true)
    (hgood : ∀ w ∈ Cond.classLink own ik cls :: Cond.initialized cls :: vx_atS own ic cls names, vx_ot w = true)
    (hU : vx_Zq Bundle.tN "UNASSIGNED_STACK" Bundle.steD A s s.heap) (hN : vx_Zq Bundle.tN "SUPPRESSED_SENTINEL" Bundle.listD A s s.heap) (hS : va_S A s.heap H locs) (hsize : ls.size = c.maxLocals)
    (d0 : decode cc pc = .ok (.new ik, 3)) (d3 : decode cc (pc + 3) = .ok (.dup, 1)) (d4 : decode cc (pc + 4) = .ok (.ldc is, 2)) (d6 : decode cc (pc + 6) = .ok (.invokespecial ic, 3)) (d9 : decode cc (pc + 9) = .ok (.athrow, 1))
    (hout : ∀ x ∈ c.exceptionTable.toList, covers x (pc + 9) = false)
    (hRframes : names.length + 3 < R.frames) (hRlocals : (rest.map fun v => v.category).sum + (13 * (names.length + 1) + 43) ≤ R.locals) (hRcells : cells + 1 ≤ R.cells) (hRslots : slots + 6 ≤ R.slots) (hlocks : meth.locks = false)
    (hx : ∀ t : State, s.vm.Alike t.vm → H.size ≤ t.heap.size → (∀ q : Nat, q < H.size → t.heap[q]? = H[q]?) → XC cls s t)
    (hf : ∀ z ∈ locs, free z.base) (hc : cells + 1 ≤ mc) (hs : slots + 6 ≤ ms) :
    W p l e R s m args below meth c H locs cells slots (vx_MQ below Qc XC args s mc ms free) (F0 m pc ls rest) := by
  intro T hT X
  have htr : e.platform.stackTraces = false := (show e.platform.stackTraces = l.stackTraces by rw [X.admits.platform]).trans hl
  have Y := vx_rebase X (R' := { frames := R.frames, locals := R.locals, cells := 1, slots := 6 }) (Nat.le_refl _) (Nat.le_refl _) hRcells hRslots
  obtain ⟨s', hA⟩ : ∃ z, z = (T.setVm s.vm).setFrames (.invoking m args :: below) := ⟨_, rfl⟩
  rw [← hA] at Y
  have hvm : s'.vm = s.vm := by rw [hA]; rfl
  have hhp : s'.heap = H := by rw [hA]; exact hT
  have hW0 : s.WarmedH s'.vm := by rw [hvm]; exact State.WarmedH.refl s
  have hat' : ∀ w ∈ vx_atS own ic cls names, w.before args s' = true := fun w hw => vx_ot_at hW0 hvm.symm (hgood w (List.mem_cons_of_mem _ (List.mem_cons_of_mem _ hw))) (hat w hw)
  have hk' : (Cond.classLink own ik cls).before args s' = true := vx_ot_at hW0 hvm.symm (hgood _ List.mem_cons_self) hk
  have hini' : (Cond.initialized cls).before args s' = true := vx_ot_at hW0 hvm.symm (hgood _ (List.mem_cons_of_mem _ List.mem_cons_self)) hini
  have hU' : vx_Zq Bundle.tN "UNASSIGNED_STACK" Bundle.steD A s' s'.heap := by rw [hhp]; exact vx_Zq.moved hW0.alike (hU.kept hS.2.1)
  have hN' : vx_Zq Bundle.tN "SUPPRESSED_SENTINEL" Bundle.listD A s' s'.heap := by rw [hhp]; exact vx_Zq.moved hW0.alike (hN.kept hS.2.1)
  have h : ∀ w ∈ Bundle.ownAtoms own ic cls names, w.before args s' = true := vx_own hat' (vx_isRefq hU'.1) (vx_isRefq hN'.1) hU'.2.word hN'.2.word
  have hown' : s'.vm.findClass own = some m.cls := by rw [hvm]; exact hown
  have hins : (Cond.instantiable cls 6).before args s' = true := h _ (by simp [Bundle.ownAtoms])
  obtain ⟨vm₁, cX, kX, hfX, hkX, -, -, X₁, st1⟩ := Y.newCold hexec (own := own) (C := cls) (index := ik) (n := 6) hown' hk' hins hini'
    (g := F0 m pc ls rest) rfl (by rw [hb]; exact d0) (Nat.le_refl _) (Nat.le_refl _)
  generalize hT1 : (T.setVm vm₁).pushCell { cls := cX, slots := kX.instanceTypes.map defaultValue, vm := .none } = T1 at X₁ st1
  have hcat : (Value.ref T.heap.size).category = 1 := rfl
  have hcellA : T1.heap[T.heap.size]? = some (freshCell cX kX) := by rw [← hT1]; exact State.heap_pushCell_size _ _
  have d3' : decode c.code (pc + 3) = .ok (.dup, 1) := by rw [hb]; exact d3
  have d4' : decode c.code (pc + 4) = .ok (.ldc is, 2) := by rw [hb]; exact d4
  have hstr' : vk_R own is text sa s' := vk_R.warm hW0 hstr
  obtain ⟨U, hsteps, hrun, hend, hW, hsame, ce, hce, hO⟩ := X₁.ctorThrowS hexec htr (own := own) (cls := cls) (names := names) (ic := ic) hown' hcls hnames h (fun x hx => nomatch hx) hfX hkX hcellA (by rw [hhp, hT]; exact Nat.le_refl _) (msg := .ref sa) rfl
    (g := { method := m, pc := pc + 6, locals := ls, stack := .ref sa :: .ref T.heap.size :: .ref T.heap.size :: rest, locked := none }) rfl hsize rfl rfl (rest := rest) rfl
    (by rw [hb]; exact d6) (by rw [hb]; exact d9) hout hRframes (by simp only [List.map_cons, List.sum_cons, hcat]; omega) hlocks
  obtain ⟨f1, f2⟩ := vx_frame hsame
  rw [hhp] at f1 f2
  have hWs : s.WarmedH U.vm := State.WarmedH.trans hW0 hW
  have hcl : s.vm.findClass cls = some ce.cls := by
    have h9 := hO.cls
    rw [hvm] at h9
    exact h9
  have hall : s.sameButNew ({ U with vm := s.vm } : State) locs mc ms := by
    subst hA
    obtain ⟨e1, e2⟩ := hsame
    rw [State.setFrames_setFrames] at e1
    have h2 : (T.setVm s.vm).sameButNew ({ U with vm := s.vm } : State) [] (0 + 1) (0 + 6) := ⟨e1, e2⟩
    have h3 := X.same.trans h2
    rw [List.append_nil] at h3
    exact h3.mono hc hs
  refine ⟨U, ?_, .threw T.heap.size, hrun, hend, Or.inr ⟨T.heap.size, rfl, cls, ce, locs, hx U hWs.alike f1 (fun q hq => f2 q hq (fun z hz => nomatch hz)), hce, hO.vm, hcl, hWs, hall, hf⟩⟩
  refine st1 _ ?_
  show Steps p.tables e below (T1.setTop { method := m, pc := pc + 3, locals := ls, stack := .ref T.heap.size :: rest, locked := none }) _
  jvm_step X₁.here [X₁.here.top, hexec, d3', Value.category]
  exact X₁.ldcString hexec (own := own) (text := text) (index := is) (a := sa) hown' hstr'.1 hstr'.2
    (g := { method := m, pc := pc + 4, locals := ls, stack := .ref T.heap.size :: .ref T.heap.size :: rest, locked := none }) rfl d4' _ hsteps
/-- 'throw new E("text")', the text by a wide index -/
theorem vx_throwSW {cc : ByteArray} {pc : Nat} (hexec : p.tables.exec = Jvm.exec) (hb : c.code = cc) (hl : l.stackTraces = false) {own cls text : String} {names : List String} {ik is ic mc ms sa : Nat} {A : Nat → Prop}
    (hown : s.vm.findClass own = some m.cls) (hcls : Bundle.fit cls = true) (hnames : ∀ n ∈ names, Bundle.fit n = true)
    (hk : (Cond.classLink own ik cls).before args s = true) (hini : (Cond.initialized cls).before args s = true) (hstr : vk_R own is text sa s) (hat : ∀ w ∈ vx_atS own ic cls names, w.before args s = true)
    (hgood : ∀ w ∈ Cond.classLink own ik cls :: Cond.initialized cls :: vx_atS own ic cls names, vx_ot w = true)
    (hU : vx_Zq Bundle.tN "UNASSIGNED_STACK" Bundle.steD A s s.heap) (hN : vx_Zq Bundle.tN "SUPPRESSED_SENTINEL" Bundle.listD A s s.heap) (hS : va_S A s.heap H locs) (hsize : ls.size = c.maxLocals)
    (d0 : decode cc pc = .ok (.new ik, 3)) (d3 : decode cc (pc + 3) = .ok (.dup, 1)) (d4 : decode cc (pc + 4) = .ok (.ldc_w is, 3)) (d7 : decode cc (pc + 7) = .ok (.invokespecial ic, 3)) (d10 : decode cc (pc + 10) = .ok (.athrow, 1))
    (hout : ∀ x ∈ c.exceptionTable.toList, covers x (pc + 10) = false)
    (hRframes : names.length + 3 < R.frames) (hRlocals : (rest.map fun v => v.category).sum + (13 * (names.length + 1) + 43) ≤ R.locals) (hRcells : cells + 1 ≤ R.cells) (hRslots : slots + 6 ≤ R.slots) (hlocks : meth.locks = false)
    (hx : ∀ t : State, s.vm.Alike t.vm → H.size ≤ t.heap.size → (∀ q : Nat, q < H.size → t.heap[q]? = H[q]?) → XC cls s t)
    (hf : ∀ z ∈ locs, free z.base) (hc : cells + 1 ≤ mc) (hs : slots + 6 ≤ ms) :
    W p l e R s m args below meth c H locs cells slots (vx_MQ below Qc XC args s mc ms free) (F0 m pc ls rest) := by
  intro T hT X
  have htr : e.platform.stackTraces = false := (show e.platform.stackTraces = l.stackTraces by rw [X.admits.platform]).trans hl
  have Y := vx_rebase X (R' := { frames := R.frames, locals := R.locals, cells := 1, slots := 6 }) (Nat.le_refl _) (Nat.le_refl _) hRcells hRslots
  obtain ⟨s', hA⟩ : ∃ z, z = (T.setVm s.vm).setFrames (.invoking m args :: below) := ⟨_, rfl⟩
  rw [← hA] at Y
  have hvm : s'.vm = s.vm := by rw [hA]; rfl
  have hhp : s'.heap = H := by rw [hA]; exact hT
  have hW0 : s.WarmedH s'.vm := by rw [hvm]; exact State.WarmedH.refl s
  have hat' : ∀ w ∈ vx_atS own ic cls names, w.before args s' = true := fun w hw => vx_ot_at hW0 hvm.symm (hgood w (List.mem_cons_of_mem _ (List.mem_cons_of_mem _ hw))) (hat w hw)
  have hk' : (Cond.classLink own ik cls).before args s' = true := vx_ot_at hW0 hvm.symm (hgood _ List.mem_cons_self) hk
  have hini' : (Cond.initialized cls).before args s' = true := vx_ot_at hW0 hvm.symm (hgood _ (List.mem_cons_of_mem _ List.mem_cons_self)) hini
  have hU' : vx_Zq Bundle.tN "UNASSIGNED_STACK" Bundle.steD A s' s'.heap := by rw [hhp]; exact vx_Zq.moved hW0.alike (hU.kept hS.2.1)
  have hN' : vx_Zq Bundle.tN "SUPPRESSED_SENTINEL" Bundle.listD A s' s'.heap := by rw [hhp]; exact vx_Zq.moved hW0.alike (hN.kept hS.2.1)
  have h : ∀ w ∈ Bundle.ownAtoms own ic cls names, w.before args s' = true := vx_own hat' (vx_isRefq hU'.1) (vx_isRefq hN'.1) hU'.2.word hN'.2.word
  have hown' : s'.vm.findClass own = some m.cls := by rw [hvm]; exact hown
  have hins : (Cond.instantiable cls 6).before args s' = true := h _ (by simp [Bundle.ownAtoms])
  obtain ⟨vm₁, cX, kX, hfX, hkX, -, -, X₁, st1⟩ := Y.newCold hexec (own := own) (C := cls) (index := ik) (n := 6) hown' hk' hins hini'
    (g := F0 m pc ls rest) rfl (by rw [hb]; exact d0) (Nat.le_refl _) (Nat.le_refl _)
  generalize hT1 : (T.setVm vm₁).pushCell { cls := cX, slots := kX.instanceTypes.map defaultValue, vm := .none } = T1 at X₁ st1
  have hcat : (Value.ref T.heap.size).category = 1 := rfl
  have hcellA : T1.heap[T.heap.size]? = some (freshCell cX kX) := by rw [← hT1]; exact State.heap_pushCell_size _ _
  have d3' : decode c.code (pc + 3) = .ok (.dup, 1) := by rw [hb]; exact d3
  have d4' : decode c.code (pc + 4) = .ok (.ldc_w is, 3) := by rw [hb]; exact d4
  have hstr' : vk_R own is text sa s' := vk_R.warm hW0 hstr
  obtain ⟨U, hsteps, hrun, hend, hW, hsame, ce, hce, hO⟩ := X₁.ctorThrowS hexec htr (own := own) (cls := cls) (names := names) (ic := ic) hown' hcls hnames h (fun x hx => nomatch hx) hfX hkX hcellA (by rw [hhp, hT]; exact Nat.le_refl _) (msg := .ref sa) rfl
    (g := { method := m, pc := pc + 7, locals := ls, stack := .ref sa :: .ref T.heap.size :: .ref T.heap.size :: rest, locked := none }) rfl hsize rfl rfl (rest := rest) rfl
    (by rw [hb]; exact d7) (by rw [hb]; exact d10) hout hRframes (by simp only [List.map_cons, List.sum_cons, hcat]; omega) hlocks
  obtain ⟨f1, f2⟩ := vx_frame hsame
  rw [hhp] at f1 f2
  have hWs : s.WarmedH U.vm := State.WarmedH.trans hW0 hW
  have hcl : s.vm.findClass cls = some ce.cls := by
    have h9 := hO.cls
    rw [hvm] at h9
    exact h9
  have hall : s.sameButNew ({ U with vm := s.vm } : State) locs mc ms := by
    subst hA
    obtain ⟨e1, e2⟩ := hsame
    rw [State.setFrames_setFrames] at e1
    have h2 : (T.setVm s.vm).sameButNew ({ U with vm := s.vm } : State) [] (0 + 1) (0 + 6) := ⟨e1, e2⟩
    have h3 := X.same.trans h2
    rw [List.append_nil] at h3
    exact h3.mono hc hs
  refine ⟨U, ?_, .threw T.heap.size, hrun, hend, Or.inr ⟨T.heap.size, rfl, cls, ce, locs, hx U hWs.alike f1 (fun q hq => f2 q hq (fun z hz => nomatch hz)), hce, hO.vm, hcl, hWs, hall, hf⟩⟩
  refine st1 _ ?_
  show Steps p.tables e below (T1.setTop { method := m, pc := pc + 3, locals := ls, stack := .ref T.heap.size :: rest, locked := none }) _
  jvm_step X₁.here [X₁.here.top, hexec, d3', Value.category]
  exact X₁.ldcStringW hexec (own := own) (text := text) (index := is) (a := sa) hown' hstr'.1 hstr'.2
    (g := { method := m, pc := pc + 4, locals := ls, stack := .ref T.heap.size :: .ref T.heap.size :: rest, locked := none }) rfl d4' _ hsteps
end Ends
section Bodies
variable {l : Launch}
theorem vx_ofW {y : MethodName} {ws ws' : List Cond} {rm : Room} {Pc : Array Value → State → Prop} {Qc : Array Value → State → Outcome → State → Prop} {XC : String → State → State → Prop} {mc ms : Nat} {free : Addr → Prop} {cc : ByteArray} {maxL : Nat} {ret : Option FieldType}
    (hy : plainName y.cls = true) (hw : ws = Cond.code y cc maxL ret :: ws')
    (body : ∀ p e s m args below meth c s₁, BodyLoose p l y (headSpec ws rm) cc maxL ret e s m args below meth c s₁ → c.maxLocals = maxL → (∀ x ∈ c.exceptionTable.toList, False) → Pc args s →
      W p l e (headSpec ws rm).room s m args below meth c s.heap [] 0 0 (vx_MQ below Qc XC args s mc ms free) (entryFrame m args maxL)) : vx_Met l y ws rm Pc Qc XC mc ms free := by
  refine MetFree.of_bodyS (code := cc) (maxLocals := maxL) (ret := ret) hy ?_ ?_
  · intro args s m h hn
    obtain ⟨meth, c, h1, h2, h3, h4, h5, h6, -, -⟩ := Cond.code_spec hn (atoms_spec (ws := ws) h _ (by rw [hw]; exact List.mem_cons_self))
    exact ⟨meth, c, h1, h2, h3, h4, h5, h6⟩
  · intro p e s m args below meth c s₁ B hml hP _
    have hh0 : s₁.heap = s.heap := by rw [B.state]; rfl
    have ht : ∀ x ∈ c.exceptionTable.toList, False := by
      obtain ⟨meth9, c9, h1, h2, -, -, -, -, h7, -⟩ := Cond.code_spec B.named (atoms_spec (ws := ws) B.pre _ (by rw [hw]; exact List.mem_cons_self))
      cases Option.some.inj (h1.symm.trans B.method)
      cases Option.some.inj (h2.symm.trans (Stand.of_body B).code)
      intro x hx
      rw [Array.isEmpty_iff.mp h7] at hx
      cases hx
    obtain ⟨t, a1, o, b1, b2, b3⟩ := body p e s m args below meth c s₁ B hml ht hP s₁ hh0 (Stand.of_body B)
    exact ⟨t, o, a1, b1, b2, b3⟩
/-- the table of a body with handlers -/
theorem vx_table {p : Program} {x y : MethodName} {S : Spec} {cc bytes : ByteArray} {maxL maxL' : Nat} {ret ret' : Option FieldType} {e : Env} {s s₁ : State} {m : MethodId} {args : Array Value} {below : List Frame} {meth : Method} {c : Code} {hh : List (Nat × Nat × Nat × Nat)}
    (B : BodyLoose p l y S cc maxL ret e s m args below meth c s₁) (h : (Cond.codeWith y bytes maxL' ret' hh).before args s = true) : c.exceptionTable.toList = tableOf hh := by
  obtain ⟨m9, meth9, c9, hn9, h1, h2, -, -, h6, -⟩ := Cond.codeWith_spec h
  cases Option.some.inj (hn9.symm.trans B.named)
  cases Option.some.inj (h1.symm.trans B.method)
  cases Option.some.inj (h2.symm.trans (Stand.of_body B).code)
  rw [← h6, table_eq]
end Bodies
end VXA
/-! ===== END ===== -/
/-! ===== BEGIN a static call of a method with an exception table ===== -/
section VXS
variable {p : Program} {l : Launch} {e : Env} {R : Room} {s : State} {m : MethodId} {args : Array Value} {below : List Frame} {meth : Method} {c : Code} {T : State} {H : Heap} {locs : List Loc} {cells slots : Nat}
abbrev vx_CSW (R : Room) (s : State) (args : Array Value) (own : String) (index : Nat) (y : MethodName) (bytes : ByteArray) (maxL : Nat) (ret : Option FieldType) (hh : List (Nat × Nat × Nat × Nat)) (ws : List Cond) (rm : Room) (mc ms n : Nat) : Prop :=
  (rm.cells = mc ∧ rm.slots = ms ∧ rm.frames + 1 ≤ R.frames ∧ 8 + (maxL + 11) + rm.locals ≤ R.locals ∧ (∀ w ∈ ws, ∀ (a' : Array Value) (U : State), s.WarmedH U.vm → w.before a' U = true) ∧ Cond.codeWith y bytes maxL ret hh ∈ ws) ∧
  (Cond.codeWith y bytes maxL ret hh).before args s = true ∧ (Cond.initialized y.cls).before args s = true ∧ (y.cls ≠ "java/lang/invoke/MethodHandle" ∧ y.cls ≠ "java/lang/invoke/VarHandle") ∧
  (∀ sig, parseMethodDescriptor y.desc = some sig → n = sig.parameters.length) ∧ (Cond.methodLink own index y).before args s = true ∧ (Cond.static y).before args s = true
theorem vx_cwSW {own : String} {index maxL mc ms : Nat} {y : MethodName} {bytes : ByteArray} {ret : Option FieldType} {hh : List (Nat × Nat × Nat × Nat)} {Ts ws ws' : List Cond} {rm : Room} (n : Nat) (ht : ∀ w ∈ Ts, w.before args s = true) (hT : GoodIn Ts (va_wsS own index y ws)) (hw : ws = Cond.codeWith y bytes maxL ret hh :: ws') (hrc : rm.cells = mc) (hrs : rm.slots = ms)
    (hd : y.cls ≠ "java/lang/invoke/MethodHandle" ∧ y.cls ≠ "java/lang/invoke/VarHandle" ∧ (parseMethodDescriptor y.desc).map (fun d => d.parameters.length) = some n) (hR : rm.frames + 1 ≤ R.frames ∧ 8 + (maxL + 11) + rm.locals ≤ R.locals) :
    vx_CSW R s args own index y bytes maxL ret hh ws rm mc ms n := by
  have ok : ∀ w ∈ va_wsS own index y ws, w.before args s = true := fun w h => ht w (hT w h).1
  have hG : GoodIn Ts ws := fun w h => hT w (by unfold va_wsS; exact List.mem_append_right _ h)
  have hc : Cond.codeWith y bytes maxL ret hh ∈ ws := by rw [hw]; exact List.mem_cons_self
  refine ⟨⟨hrc, hrs, hR.1, hR.2, pay_in ht hG, hc⟩, ht _ (hG _ hc).1, ok _ (by simp [va_wsS]), ⟨hd.1, hd.2.1⟩, fun sig h => ?_, ok _ (by simp [va_wsS]), ok _ (by simp [va_wsS])⟩
  have h2 := hd.2.2
  rw [h] at h2
  exact (Option.some.inj h2).symm
theorem vx_callSW (X : Stand p l e R s m args below meth c T locs cells slots) (hexec : p.tables.exec = Jvm.exec) {own : String} {index : Nat} {y : MethodName} {bytes : ByteArray} {maxL : Nat} {ret : Option FieldType} {hh : List (Nat × Nat × Nat × Nat)}
    (hown : s.vm.findClass own = some m.cls) (hlink : (Cond.methodLink own index y).before args s = true) (hstat : (Cond.static y).before args s = true) (hinit : (Cond.initialized y.cls).before args s = true)
    (hcode : (Cond.codeWith y bytes maxL ret hh).before args s = true) (hy : y.cls ≠ "java/lang/invoke/MethodHandle" ∧ y.cls ≠ "java/lang/invoke/VarHandle")
    {W9 : Nat} {Pre : Pt → Array Value → Prop} {Post : Pt → Array Value → Option Value → Pt → Prop} (hK : Back l R p e below s args y 3 W9 Pre Post)
    {g : JFrame} (hg : g.method = m) (hsize : g.locals.size = c.maxLocals) {argsL rest : List Value} (hlen : ∀ sig, parseMethodDescriptor y.desc = some sig → argsL.length = sig.parameters.length)
    (hstack : g.stack = argsL.reverse ++ rest) (hW : 2 * g.monitorRoom + (rest.map fun v => v.category).sum ≤ W9) (hdg : decode c.code g.pc = .ok (.invokestatic index, 3))
    (hpre : ∀ vm₁, s.WarmedH vm₁ → Pre ⟨T.setVm vm₁, locs, cells, slots⟩ argsL.toArray) :
    ∃ (v : Option Value) (vm₁ : Vm) (B : Pt), s.WarmedH vm₁ ∧ Stand p l e R s m args below meth c B.U B.locs B.cells B.slots ∧ Post ⟨T.setVm vm₁, locs, cells, slots⟩ argsL.toArray v B ∧
      ∀ target, Steps p.tables e below (B.U.setTop { g with pc := g.pc + 3, stack := v.toList ++ rest }) target → Steps p.tables e below (T.setTop g) target := by
  obtain ⟨mk, methM, cM, hnamed, hmethM, -, -, -, -, -, -, hsigM⟩ := Cond.codeWith_spec hcode
  have hstatic : methM.isStatic = true := Cond.static_spec hnamed hmethM hstat
  obtain ⟨kP, hkP, -⟩ := className_of_methodNamed hnamed
  have hinitP : kP.init = .initialized := Cond.initialized_spec (findClass_of_methodNamed hnamed) hkP hinit
  obtain ⟨vm₁, X₁, hstep₁⟩ := X.invokestatic hexec hown hlink hnamed hmethM hstatic hkP hinitP hy (g := g) hg (argsL := argsL) (rest := rest) (hlen _ hsigM) hstack hdg
  obtain ⟨v, B, X', hpost, hsteps⟩ := hK m meth c ⟨T.setVm vm₁, locs, cells, slots⟩ { g with stack := rest } (.invokestatic index) mk argsL.toArray X₁ hg hsize hdg hW (X₁.named hnamed) (hpre vm₁ X₁.warmed)
  exact ⟨v, vm₁, B, X₁.warmed, X', hpost, fun target h => hstep₁ _ fun acts => by rw [doInvoke_state]; exact hsteps.trans h⟩
theorem vx_runSW {y : MethodName} {bytes cc : ByteArray} {maxL nL mc ms n index : Nat} {ret : Option FieldType} {hh : List (Nat × Nat × Nat × Nat)} {ws : List Cond} {rm : Room} {Pc : Array Value → State → Prop} {Qc : Array Value → State → Outcome → State → Prop} {free : Addr → Prop} {Ts : List Cond} {own : String} {As rest : List Value} {g : JFrame}
    (S : CallFix p m c cc nL s args Ts own) (hM : Met l y ws rm Pc Qc mc ms free) (cw : vx_CSW R s args own index y bytes maxL ret hh ws rm mc ms n) (hp : PreS s H Pc As)
    (hg : g.method = m) (hn : As.length = n) (hsize : g.locals.size = nL) (hstack : g.stack = As.reverse ++ rest) (hW : 2 * g.monitorRoom + (rest.map fun v => v.category).sum ≤ 8) (hdg : decode cc g.pc = .ok (.invokestatic index, 3)) (hf : cells + mc ≤ R.cells ∧ slots + ms ≤ R.slots) :
    va_Run p l e R s m args below meth c H locs cells slots mc ms g rest (Qc As.toArray) (free) := by
  obtain ⟨⟨hrc, hrs, hfr, hlo, hws, hcw⟩, hcode, hini, hy, hlen, hl, hstt⟩ := cw
  have hK : Back l R p e below s args y 3 8 (PreOf R mc ms Pc) (PostOf Qc mc ms free) := va_backW (hh := hh) (bytes := bytes) (maxL := maxL) (ret := ret) hM hp.1 hrc hrs hfr hlo hws hcw (fun a' U hW => word_at hW (Or.inl (by first | rfl | simp [Cond.onTables, Cond.keeps, Cond.steady])) hini)
  obtain ⟨hx, hb, hml, ho, -⟩ := S
  intro T hT X
  obtain ⟨v, vm₁, ⟨U', l2, c2, s2⟩, hW₁, X', ⟨g', mk, t, L, e1, e2, hq, h1, hL, h2, h3⟩, st⟩ := vx_callSW X hx (hh := hh) (bytes := bytes) (maxL := maxL) (ret := ret) ho hl hstt hini hcode hy hK hg (hsize.trans hml.symm) (argsL := As) (rest := rest) (fun sig h => hn.trans (hlen sig h)) hstack hW (by rw [hb]; exact hdg)
    (fun vm₁ hW₁ => ⟨hf.1, hf.2, hp.2 (T.setVm vm₁) hT hW₁⟩)
  dsimp only [Pt.U, Pt.locs, Pt.cells, Pt.slots] at X' e1 e2 h1 h2 h3 st
  subst h1; subst h2; subst h3
  exact ⟨v, (T.setVm vm₁).calling g' mk As.toArray, t, U', L, hT, X', hL, e1, e2, hq, st⟩
/-- not caught here, past rows that name other classes: it goes on to the caller -/
theorem vx_outP {p : Program} {l : Launch} {e : Env} {R : Room} {s : State} {m : MethodId} {args : Array Value} {below : List Frame} {meth : Method} {c : Code} {H : Heap} {locs : List Loc} {cells slots : Nat} {free : Addr → Prop} {ls : Array Slot} {rest : List Value} {Qc : Array Value → State → Outcome → State → Prop} {XC : String → State → State → Prop}
    {pc : Nat} {own E : String} {ce : Cell} {q : Addr} {mc ms : Nat} (hown : s.vm.findClass own = some m.cls) (hlocks : meth.locks = false)
    (hpass : ∀ z ∈ c.exceptionTable.toList, covers z pc = false ∨ (z.catchType ≠ 0 ∧ ∃ nm : String, (Cond.classLink own z.catchType nm).before args s = true ∧ va_Nc E nm s)) (hcell : H[q]? = some ce) (hv : ce.vm = .none) (hcl : s.vm.findClass E = some ce.cls)
    (hx : ∀ t : State, t.heap = H → s.vm.Alike t.vm → XC E s t) (hf : ∀ z ∈ locs, free z.base) (hc : cells ≤ mc) (hs : slots ≤ ms) :
    vx_W p l e R s m args below meth c H locs cells slots (vx_MQ below Qc XC args s mc ms free) (F0 m pc ls rest) q := by
  intro T hT X
  have hpl : e.platform.magicAccessors = ({} : Platform).magicAccessors := by rw [X.admits.platform]
  obtain ⟨vm', hW', X', st⟩ := X.outThrough hlocks q (g := F0 m pc ls rest) rfl rfl rfl (cell := ce) (by rw [hT]; exact hcell) (by rw [hv]; rfl)
    (by obtain ⟨k9, h9, -⟩ := Vm.findClass_spec hcl; exact ⟨k9, h9⟩) (fun z hz => by
      rcases hpass z hz with h | ⟨hz0, nm, hl1, hn1⟩
      · exact Or.inl h
      · obtain ⟨c6, hc6, hcl6⟩ := Cond.classLink_spec hown hl1 e.platform hpl
        obtain ⟨a8, b8, h1, h2, h3⟩ := hn1
        cases Option.some.inj (h1.symm.trans hcl)
        cases Option.some.inj (h2.symm.trans hc6)
        exact Or.inr ⟨hz0, _, hcl6, h3⟩)
  obtain ⟨g₀, hfr⟩ := X'.frames_eq
  have hcell9 : ((T.setVm vm').setFrames (.throwing q :: below)).heap[q]? = some ce := by
    show T.heap[q]? = some ce
    rw [hT]; exact hcell
  have hend : Ended ((T.setVm vm').setFrames (.throwing q :: below)) below (.threw q) := State.frames_setFrames _ (State.cur_lt_of_frames hfr)
  refine ⟨(T.setVm vm').setFrames (.throwing q :: below), ?_, .threw q, X'.here.running, hend, Or.inr ⟨q, rfl, E, ce, locs, hx _ hT (X'.ends _).1.alike, hcell9, hv, hcl, (X'.ends _).1, (X'.ends _).2.mono hc hs, hf⟩⟩
  rw [X.pushThrowing_eq]
  exact st
/-- a thing of a world lies in the heap -/
theorem vx_lt {D : va_G} {cl : List vw_C} {ws : va_W} {H1 : Heap} (h : va_P D cl ws H1) {k : Nat} {q : Nat × va_E} (hk : ws[k]? = some q) : q.1 < H1.size := (h k q hk).lt
end VXS
/-! ===== END ===== -/
/-! ===== BEGIN methods with a table of their own: called by a name, returning or throwing ===== -/
section VXH
/-! vx_backW, vx_callVX, vx_callSX, vx_callVW, vx_runVW, vx_runVX, vx_runSX, vx_ofWH follow the same proofs as their sisters above (Free/Laws.lean, Shelf42/LK1.lean); vx_outP calls Shelf42/NT130.lean (outThrough). -/
section
variable {l : Launch} {R : Room} {p : Program} {e : Env} {below : List Frame} {s : State} {sargs : Array Value} {y : MethodName} {len W9 : Nat}
theorem vx_backW {ws : List Cond} {rm : Room} {Pc : Array Value → State → Prop} {Qc : Array Value → State → Outcome → State → Prop} {XC : String → State → State → Prop} {mc ms : Nat} {free : Addr → Prop} {bytes : ByteArray} {maxL : Nat} {ret : Option FieldType} {hh : List (Nat × Nat × Nat × Nat)}
    (hM : vx_Met l y ws rm Pc Qc XC mc ms free) (hblind : FrameBlind Pc) (hrc : rm.cells = mc) (hrs : rm.slots = ms)
    (hframes : rm.frames + 1 ≤ R.frames) (hlocals : W9 + (maxL + 11) + rm.locals ≤ R.locals)
    (hws : ∀ w ∈ ws, ∀ a' U, s.WarmedH U.vm → w.before a' U = true) (hcode : Cond.codeWith y bytes maxL ret hh ∈ ws) (hinit : ∀ a' U, s.WarmedH U.vm → (Cond.initialized y.cls).before a' U = true) :
    vx_Back l R p e below s sargs y len W9 (PreOf R mc ms Pc) (PostOf Qc mc ms free) (vx_Post XC mc ms free) := by
  intro m meth c A g ig mk a X hg hsize hdg hW hn hp
  have h1 : (headSpec ws rm).pre.before a A.U = true := atoms_intro fun w hw => hws w hw _ _ X.warmed
  have h2 : (Cond.codeWith y bytes maxL ret hh).before a A.U = true := hws _ hcode _ _ X.warmed
  have h3 : (Cond.initialized y.cls).before a A.U = true := hinit _ _ X.warmed
  have h4 : A.cells + (headSpec ws rm).room.cells ≤ R.cells := by rw [show (headSpec ws rm).room.cells = mc from hrc]; exact hp.1
  have h5 : A.slots + (headSpec ws rm).room.slots ≤ R.slots := by rw [show (headSpec ws rm).room.slots = ms from hrs]; exact hp.2.1
  have hPc : Pc a (A.U.calling g mk a) := hblind _ _ _ _ hp.2.2
  obtain ⟨U, Ls, c0, s0⟩ := A
  dsimp only [Pt.U, Pt.locs, Pt.cells, Pt.slots] at h1 h2 h3 h4 h5 X hn hPc ⊢
  obtain ⟨m9, methY, cY, hn9, hmY, hcY, -, hlY, -⟩ := Cond.codeWith_spec h2
  cases Option.some.inj (hn9.symm.trans hn)
  obtain ⟨kY, hkY, -⟩ := className_of_methodNamed hn
  have hinitY : kY.init = .initialized := Cond.initialized_spec (findClass_of_methodNamed hn) hkY h3
  have h : At U g.method c below := by rw [hg]; exact X.here
  have hlocals9 : W9 + (maxL + 11) + (headSpec ws rm).room.locals ≤ R.locals := hlocals
  have happ : (headSpec ws rm).appliesLoose y e.platform (U.calling g mk a) = true :=
    Spec.appliesLoose_calling (g := g) h hdg hn hkY hinitY
      (X.room_calling (g := g) (R' := (headSpec ws rm).room) hsize hmY hcY hframes (by rw [hlY]; omega) h4 h5) h1
  obtain ⟨mid, hmid⟩ := h.above
  have hfr : (U.setTop g).frames = (.java g :: mid) ++ below := by rw [State.frames_setTop' g h.top, hmid]; rfl
  obtain ⟨o, s₂, hsteps, -, hend, hq⟩ := Steps.callFree hM p X.admits X.cas X.clock (acts := []) hfr happ hPc trivial
  have hq' : vx_Q Qc XC mc ms free a (U.calling g mk a) o s₂ := hq
  rw [State.frames_setTop' g h.top] at hend
  obtain ⟨g₀, hg0⟩ := Option.isSome_iff_exists.mp h.top
  obtain ⟨r, hr⟩ := State.topJava?_eq_some.mp hg0
  have hr' : (({ U with heap := s₂.heap, slotsUsed := s₂.slotsUsed } : State).setVm s₂.vm).frames = .java g₀ :: r := hr
  rcases hq' with ⟨hqc, L, hfe, hL⟩ | ⟨q, rfl, E, ce, L, hx, hce, hcv, hcl, hW₂, hsm, hL⟩
  · obtain ⟨⟨v, rfl⟩, hW₂, e2, q2, q3, q4, q5, q6⟩ := id hfe
    have e3 : s₂ = ({ (U.calling g mk a).setFrames s₂.frames with heap := s₂.heap, slotsUsed := s₂.slotsUsed } : State).setVm s₂.vm := by
      have : s₂ = ({ s₂ with vm := (U.calling g mk a).vm } : State).setVm s₂.vm := rfl
      rw [e2] at this
      exact this
    obtain ⟨c₂, i₂, len₂, hc₂, hd₂, hf₂⟩ := hend
    have hW' : U.WarmedH s₂.vm := hW₂
    have hcc : c₂ = c := by
      have h1 : s₂.code? g.method = U.code? g.method := by
        rw [State.code?_eq, State.code?_eq, hW'.alike.method?]
      exact Option.some.inj (hc₂.symm.trans (h1.trans h.code))
    subst hcc
    have hlen : len₂ = len := by rw [hdg] at hd₂; cases hd₂; rfl
    subst hlen
    have hs₂ : s₂ = (({ U with heap := s₂.heap, slotsUsed := s₂.slotsUsed } : State).setVm s₂.vm).setTop { g with pc := g.pc + len₂, stack := v.toList ++ g.stack } := by
      refine e3.trans ?_
      rw [hf₂, State.calling_eq h.top, State.setFrames_setFrames, State.setTop_of_frames _ hr', hr]
      rfl
    have hsame : U.sameButNew ({ U with heap := s₂.heap, slotsUsed := s₂.slotsUsed } : State) L mc ms := by
      refine ⟨?_, q2, q3, q4, q5, q6⟩
      obtain ⟨t, ht, -⟩ := State.frames_cons hr
      show ({ U with heap := s₂.heap, slotsUsed := s₂.slotsUsed } : State) = { U.setFrames U.frames with heap := s₂.heap, slotsUsed := s₂.slotsUsed }
      rw [State.setFrames_self ht]
    subst hg
    refine Or.inl ⟨v, ⟨(({ U with heap := s₂.heap, slotsUsed := s₂.slotsUsed } : State).setVm s₂.vm), Ls ++ L, c0 + mc, s0 + ms⟩,
      ⟨X.admits, X.cas, X.clock, X.frames, X.room, X.hears, X.method, X.code, (X.here.setHeapUsed s₂.heap s₂.slotsUsed).setVm hW'.alike, X.tail, State.WarmedH.trans X.warmed hW', X.limits, X.bytes, X.same.trans (hsame.setVm s.vm)⟩,
      ⟨g, mk, s₂, L, rfl, rfl, hqc, rfl, hL, rfl, rfl⟩, ?_⟩
    show Steps p.tables e below _ ((({ U with heap := s₂.heap, slotsUsed := s₂.slotsUsed } : State).setVm s₂.vm).setTop { g with pc := g.pc + len₂, stack := v.toList ++ g.stack })
    rw [← hs₂]
    exact hsteps
  · obtain ⟨e2, q2, q3, q4, q5, q6⟩ := id hsm
    have e3 : s₂ = ({ (U.calling g mk a).setFrames s₂.frames with heap := s₂.heap, slotsUsed := s₂.slotsUsed } : State).setVm s₂.vm := by
      have : s₂ = ({ s₂ with vm := (U.calling g mk a).vm } : State).setVm s₂.vm := rfl
      rw [e2] at this
      exact this
    have hf₂ : s₂.frames = .throwing q :: .java g :: U.frames.tail := hend
    have hW' : U.WarmedH s₂.vm := hW₂
    have hs₂ : s₂ = ((({ U with heap := s₂.heap, slotsUsed := s₂.slotsUsed } : State).setVm s₂.vm).setTop g).pushFrame (.throwing q) := by
      refine e3.trans ?_
      rw [hf₂, State.calling_eq h.top, State.setFrames_setFrames, State.pushFrame, State.frames_setTop _ hr', State.setTop_of_frames _ hr', State.setFrames_setFrames, hr]
      rfl
    have hsame : U.sameButNew ({ U with heap := s₂.heap, slotsUsed := s₂.slotsUsed } : State) L mc ms := by
      refine ⟨?_, q2, q3, q4, q5, q6⟩
      obtain ⟨t, ht, -⟩ := State.frames_cons hr
      show ({ U with heap := s₂.heap, slotsUsed := s₂.slotsUsed } : State) = { U.setFrames U.frames with heap := s₂.heap, slotsUsed := s₂.slotsUsed }
      rw [State.setFrames_self ht]
    subst hg
    refine Or.inr ⟨q, ⟨(({ U with heap := s₂.heap, slotsUsed := s₂.slotsUsed } : State).setVm s₂.vm), Ls ++ L, c0 + mc, s0 + ms⟩,
      ⟨X.admits, X.cas, X.clock, X.frames, X.room, X.hears, X.method, X.code, (X.here.setHeapUsed s₂.heap s₂.slotsUsed).setVm hW'.alike, X.tail, State.WarmedH.trans X.warmed hW', X.limits, X.bytes, X.same.trans (hsame.setVm s.vm)⟩,
      ⟨g, mk, s₂, L, E, ce, rfl, rfl, hx, hce, hcv, hcl, rfl, hL, rfl, rfl⟩, ?_⟩
    show Steps p.tables e below _ (((({ U with heap := s₂.heap, slotsUsed := s₂.slotsUsed } : State).setVm s₂.vm).setTop g).pushFrame (.throwing q))
    rw [← hs₂]
    exact hsteps
end
variable {p : Program} {l : Launch} {e : Env} {R : Room} {s : State} {m : MethodId} {args : Array Value} {below : List Frame} {meth : Method} {c : Code} {T : State} {H : Heap} {locs : List Loc} {cells slots : Nat}
theorem vx_callVX (X : Stand p l e R s m args below meth c T locs cells slots) (hexec : p.tables.exec = Jvm.exec) {own C : String} {index : Nat} {y : MethodName} {bytes : ByteArray} {maxL : Nat} {ret : Option FieldType} {hh : List (Nat × Nat × Nat × Nat)}
    (hown : s.vm.findClass own = some m.cls) (hlink : (Cond.methodLink own index y).before args s = true) (hinst : (Cond.instanceMethod y).before args s = true) (hsel : (Cond.selects C y y).before args s = true)
    (hcode : (Cond.codeWith y bytes maxL ret hh).before args s = true) (hy : y.cls ≠ "java/lang/invoke/MethodHandle" ∧ y.cls ≠ "java/lang/invoke/VarHandle")
    {W9 : Nat} {Pre : Pt → Array Value → Prop} {Post : Pt → Array Value → Option Value → Pt → Prop} {PostX : Pt → Array Value → Addr → Pt → Prop} (hK : vx_Back l R p e below s args y 3 W9 Pre Post PostX)
    {b : Addr} {cellB : Cell} (hcell : T.heap[b]? = some cellB) (hobj : cellB.vm.isStatics = false) (hcls : s.vm.findClass C = some cellB.cls)
    {g : JFrame} (hg : g.method = m) (hsize : g.locals.size = c.maxLocals) {argsL rest : List Value} (hlen : ∀ sig, parseMethodDescriptor y.desc = some sig → argsL.length = sig.parameters.length)
    (hstack : g.stack = argsL.reverse ++ .ref b :: rest) (hW : 2 * g.monitorRoom + (rest.map fun v => v.category).sum ≤ W9) (hdg : decode c.code g.pc = .ok (.invokevirtual index, 3))
    (hpre : ∀ vm₁, s.WarmedH vm₁ → Pre ⟨T.setVm vm₁, locs, cells, slots⟩ (Value.ref b :: argsL).toArray) :
    (∃ (v : Option Value) (vm₁ : Vm) (B : Pt), s.WarmedH vm₁ ∧ Stand p l e R s m args below meth c B.U B.locs B.cells B.slots ∧ Post ⟨T.setVm vm₁, locs, cells, slots⟩ (Value.ref b :: argsL).toArray v B ∧
      ∀ target, Steps p.tables e below (B.U.setTop { g with pc := g.pc + 3, stack := v.toList ++ rest }) target → Steps p.tables e below (T.setTop g) target) ∨
    (∃ (q : Addr) (vm₁ : Vm) (B : Pt), s.WarmedH vm₁ ∧ Stand p l e R s m args below meth c B.U B.locs B.cells B.slots ∧ PostX ⟨T.setVm vm₁, locs, cells, slots⟩ (Value.ref b :: argsL).toArray q B ∧
      Steps p.tables e below (T.setTop g) ((B.U.setTop { g with stack := rest }).pushFrame (.throwing q))) := by
  obtain ⟨mk, methM, hnamed, hmethM, hstM, habM⟩ := Cond.instanceMethod_spec hinst
  obtain ⟨m8, methM', cM, hn8, hmethM', -, -, -, -, -, -, hsigM⟩ := Cond.codeWith_spec hcode
  cases Option.some.inj (hn8.symm.trans hnamed)
  cases hmethM.symm.trans hmethM'
  obtain ⟨c2, r2, m2, q1, q2, q3, q4, kP, hkP, hkPi⟩ := Cond.selects_spec hsel
  cases hcls.symm.trans q1
  cases (State.methodFound?_of_named hnamed hy).symm.trans q2
  cases hnamed.symm.trans q3
  have hselP : selectMethod e.platform s.vm cellB.cls mk = .method mk := by rw [Launch.admits_selectMethod X.admits]; exact q4
  obtain ⟨vm₁, X₁, hstep₁⟩ := X.invokevirtual hexec hown hlink hnamed hmethM hstM hkP hkPi hy (a := b) (cell := cellB) hcell
    (fun z h => by rw [h] at hobj; cases hobj) hselP hmethM habM hkP hkPi (g := g) hg (argsL := argsL) (rest := rest) (hlen _ hsigM) hstack hdg
  rcases hK m meth c ⟨T.setVm vm₁, locs, cells, slots⟩ { g with stack := rest } (.invokevirtual index) mk (Value.ref b :: argsL).toArray X₁ hg hsize hdg hW (X₁.named hnamed) (hpre vm₁ X₁.warmed) with ⟨v, B, X', hpost, hsteps⟩ | ⟨q, B, X', hpost, hsteps⟩
  · exact Or.inl ⟨v, vm₁, B, X₁.warmed, X', hpost, fun target h => hstep₁ _ fun acts => by rw [doInvoke_state]; exact hsteps.trans h⟩
  · exact Or.inr ⟨q, vm₁, B, X₁.warmed, X', hpost, hstep₁ _ fun acts => by rw [doInvoke_state]; exact hsteps⟩
theorem vx_callSX (X : Stand p l e R s m args below meth c T locs cells slots) (hexec : p.tables.exec = Jvm.exec) {own : String} {index : Nat} {y : MethodName} {bytes : ByteArray} {maxL : Nat} {ret : Option FieldType} {hh : List (Nat × Nat × Nat × Nat)}
    (hown : s.vm.findClass own = some m.cls) (hlink : (Cond.methodLink own index y).before args s = true) (hstat : (Cond.static y).before args s = true) (hinit : (Cond.initialized y.cls).before args s = true)
    (hcode : (Cond.codeWith y bytes maxL ret hh).before args s = true) (hy : y.cls ≠ "java/lang/invoke/MethodHandle" ∧ y.cls ≠ "java/lang/invoke/VarHandle")
    {W9 : Nat} {Pre : Pt → Array Value → Prop} {Post : Pt → Array Value → Option Value → Pt → Prop} {PostX : Pt → Array Value → Addr → Pt → Prop} (hK : vx_Back l R p e below s args y 3 W9 Pre Post PostX)
    {g : JFrame} (hg : g.method = m) (hsize : g.locals.size = c.maxLocals) {argsL rest : List Value} (hlen : ∀ sig, parseMethodDescriptor y.desc = some sig → argsL.length = sig.parameters.length)
    (hstack : g.stack = argsL.reverse ++ rest) (hW : 2 * g.monitorRoom + (rest.map fun v => v.category).sum ≤ W9) (hdg : decode c.code g.pc = .ok (.invokestatic index, 3))
    (hpre : ∀ vm₁, s.WarmedH vm₁ → Pre ⟨T.setVm vm₁, locs, cells, slots⟩ argsL.toArray) :
    (∃ (v : Option Value) (vm₁ : Vm) (B : Pt), s.WarmedH vm₁ ∧ Stand p l e R s m args below meth c B.U B.locs B.cells B.slots ∧ Post ⟨T.setVm vm₁, locs, cells, slots⟩ argsL.toArray v B ∧
      ∀ target, Steps p.tables e below (B.U.setTop { g with pc := g.pc + 3, stack := v.toList ++ rest }) target → Steps p.tables e below (T.setTop g) target) ∨
    (∃ (q : Addr) (vm₁ : Vm) (B : Pt), s.WarmedH vm₁ ∧ Stand p l e R s m args below meth c B.U B.locs B.cells B.slots ∧ PostX ⟨T.setVm vm₁, locs, cells, slots⟩ argsL.toArray q B ∧
      Steps p.tables e below (T.setTop g) ((B.U.setTop { g with stack := rest }).pushFrame (.throwing q))) := by
  obtain ⟨mk, methM, cM, hnamed, hmethM, -, -, -, -, -, -, hsigM⟩ := Cond.codeWith_spec hcode
  have hstatic : methM.isStatic = true := Cond.static_spec hnamed hmethM hstat
  obtain ⟨kP, hkP, -⟩ := className_of_methodNamed hnamed
  have hinitP : kP.init = .initialized := Cond.initialized_spec (findClass_of_methodNamed hnamed) hkP hinit
  obtain ⟨vm₁, X₁, hstep₁⟩ := X.invokestatic hexec hown hlink hnamed hmethM hstatic hkP hinitP hy (g := g) hg (argsL := argsL) (rest := rest) (hlen _ hsigM) hstack hdg
  rcases hK m meth c ⟨T.setVm vm₁, locs, cells, slots⟩ { g with stack := rest } (.invokestatic index) mk argsL.toArray X₁ hg hsize hdg hW (X₁.named hnamed) (hpre vm₁ X₁.warmed) with ⟨v, B, X', hpost, hsteps⟩ | ⟨q, B, X', hpost, hsteps⟩
  · exact Or.inl ⟨v, vm₁, B, X₁.warmed, X', hpost, fun target h => hstep₁ _ fun acts => by rw [doInvoke_state]; exact hsteps.trans h⟩
  · exact Or.inr ⟨q, vm₁, B, X₁.warmed, X', hpost, hstep₁ _ fun acts => by rw [doInvoke_state]; exact hsteps⟩
theorem vx_callVW (X : Stand p l e R s m args below meth c T locs cells slots) (hexec : p.tables.exec = Jvm.exec) {own C : String} {index : Nat} {y : MethodName} {bytes : ByteArray} {maxL : Nat} {ret : Option FieldType} {hh : List (Nat × Nat × Nat × Nat)}
    (hown : s.vm.findClass own = some m.cls) (hlink : (Cond.methodLink own index y).before args s = true) (hinst : (Cond.instanceMethod y).before args s = true) (hsel : (Cond.selects C y y).before args s = true)
    (hcode : (Cond.codeWith y bytes maxL ret hh).before args s = true) (hy : y.cls ≠ "java/lang/invoke/MethodHandle" ∧ y.cls ≠ "java/lang/invoke/VarHandle")
    {W9 : Nat} {Pre : Pt → Array Value → Prop} {Post : Pt → Array Value → Option Value → Pt → Prop} (hK : Back l R p e below s args y 3 W9 Pre Post)
    {b : Addr} {cellB : Cell} (hcell : T.heap[b]? = some cellB) (hobj : cellB.vm.isStatics = false) (hcls : s.vm.findClass C = some cellB.cls)
    {g : JFrame} (hg : g.method = m) (hsize : g.locals.size = c.maxLocals) {argsL rest : List Value} (hlen : ∀ sig, parseMethodDescriptor y.desc = some sig → argsL.length = sig.parameters.length)
    (hstack : g.stack = argsL.reverse ++ .ref b :: rest) (hW : 2 * g.monitorRoom + (rest.map fun v => v.category).sum ≤ W9) (hdg : decode c.code g.pc = .ok (.invokevirtual index, 3))
    (hpre : ∀ vm₁, s.WarmedH vm₁ → Pre ⟨T.setVm vm₁, locs, cells, slots⟩ (Value.ref b :: argsL).toArray) :
    ∃ (v : Option Value) (vm₁ : Vm) (B : Pt), s.WarmedH vm₁ ∧ Stand p l e R s m args below meth c B.U B.locs B.cells B.slots ∧ Post ⟨T.setVm vm₁, locs, cells, slots⟩ (Value.ref b :: argsL).toArray v B ∧
      ∀ target, Steps p.tables e below (B.U.setTop { g with pc := g.pc + 3, stack := v.toList ++ rest }) target → Steps p.tables e below (T.setTop g) target := by
  obtain ⟨mk, methM, hnamed, hmethM, hstM, habM⟩ := Cond.instanceMethod_spec hinst
  obtain ⟨m8, methM', cM, hn8, hmethM', -, -, -, -, -, -, hsigM⟩ := Cond.codeWith_spec hcode
  cases Option.some.inj (hn8.symm.trans hnamed)
  cases hmethM.symm.trans hmethM'
  obtain ⟨c2, r2, m2, q1, q2, q3, q4, kP, hkP, hkPi⟩ := Cond.selects_spec hsel
  cases hcls.symm.trans q1
  cases (State.methodFound?_of_named hnamed hy).symm.trans q2
  cases hnamed.symm.trans q3
  have hselP : selectMethod e.platform s.vm cellB.cls mk = .method mk := by rw [Launch.admits_selectMethod X.admits]; exact q4
  obtain ⟨vm₁, X₁, hstep₁⟩ := X.invokevirtual hexec hown hlink hnamed hmethM hstM hkP hkPi hy (a := b) (cell := cellB) hcell
    (fun z h => by rw [h] at hobj; cases hobj) hselP hmethM habM hkP hkPi (g := g) hg (argsL := argsL) (rest := rest) (hlen _ hsigM) hstack hdg
  obtain ⟨v, B, X', hpost, hsteps⟩ := hK m meth c ⟨T.setVm vm₁, locs, cells, slots⟩ { g with stack := rest } (.invokevirtual index) mk (Value.ref b :: argsL).toArray X₁ hg hsize hdg hW (X₁.named hnamed) (hpre vm₁ X₁.warmed)
  exact ⟨v, vm₁, B, X₁.warmed, X', hpost, fun target h => hstep₁ _ fun acts => by rw [doInvoke_state]; exact hsteps.trans h⟩
abbrev vx_CVW (R : Room) (s : State) (args : Array Value) (own C : String) (index : Nat) (y : MethodName) (bytes : ByteArray) (maxL : Nat) (ret : Option FieldType) (hh : List (Nat × Nat × Nat × Nat)) (ws : List Cond) (rm : Room) (mc ms n : Nat) : Prop :=
  (rm.cells = mc ∧ rm.slots = ms ∧ rm.frames + 1 ≤ R.frames ∧ 8 + (maxL + 11) + rm.locals ≤ R.locals ∧ (∀ w ∈ ws, ∀ (a' : Array Value) (U : State), s.WarmedH U.vm → w.before a' U = true) ∧ Cond.codeWith y bytes maxL ret hh ∈ ws) ∧
  (Cond.codeWith y bytes maxL ret hh).before args s = true ∧ (Cond.initialized y.cls).before args s = true ∧ (y.cls ≠ "java/lang/invoke/MethodHandle" ∧ y.cls ≠ "java/lang/invoke/VarHandle") ∧
  (∀ sig, parseMethodDescriptor y.desc = some sig → n = sig.parameters.length) ∧ (Cond.methodLink own index y).before args s = true ∧ (Cond.instanceMethod y).before args s = true ∧ (Cond.selects C y y).before args s = true
theorem vx_cwVW {own C : String} {index maxL mc ms : Nat} {y : MethodName} {bytes : ByteArray} {ret : Option FieldType} {hh : List (Nat × Nat × Nat × Nat)} {Ts ws ws' : List Cond} {rm : Room} (n : Nat) (ht : ∀ w ∈ Ts, w.before args s = true) (hT : GoodIn Ts (wsV own index C y ws)) (hw : ws = Cond.codeWith y bytes maxL ret hh :: ws') (hrc : rm.cells = mc) (hrs : rm.slots = ms)
    (hd : y.cls = C ∧ y.cls ≠ "java/lang/invoke/MethodHandle" ∧ y.cls ≠ "java/lang/invoke/VarHandle" ∧ (parseMethodDescriptor y.desc).map (fun d => d.parameters.length) = some n) (hR : rm.frames + 1 ≤ R.frames ∧ 8 + (maxL + 11) + rm.locals ≤ R.locals) :
    vx_CVW R s args own C index y bytes maxL ret hh ws rm mc ms n := by
  obtain ⟨hC, hd⟩ := hd
  subst hC
  have ok : ∀ w ∈ wsV own index y.cls y ws, w.before args s = true := fun w h => ht w (hT w h).1
  have hG : GoodIn Ts ws := fun w h => hT w (by unfold wsV; exact List.mem_append_right _ h)
  have hc : Cond.codeWith y bytes maxL ret hh ∈ ws := by rw [hw]; exact List.mem_cons_self
  refine ⟨⟨hrc, hrs, hR.1, hR.2, pay_in ht hG, hc⟩, ht _ (hG _ hc).1, ok _ (by simp [wsV]), ⟨hd.1, hd.2.1⟩, fun sig h => ?_, ok _ (by simp [wsV]), ok _ (by simp [wsV]), ok _ (by simp [wsV])⟩
  have h2 := hd.2.2
  rw [h] at h2
  exact (Option.some.inj h2).symm
theorem vx_runVW {y : MethodName} {bytes cc : ByteArray} {maxL nL mc ms n index : Nat} {ret : Option FieldType} {hh : List (Nat × Nat × Nat × Nat)} {ws : List Cond} {rm : Room} {Pc : Array Value → State → Prop} {Qc : Array Value → State → Outcome → State → Prop} {free : Addr → Prop} {Ts : List Cond} {own C : String} {b : Addr} {As rest : List Value} {g : JFrame}
    (S : CallFix p m c cc nL s args Ts own) (hM : Met l y ws rm Pc Qc mc ms free) (cw : vx_CVW R s args own C index y bytes maxL ret hh ws rm mc ms n) (hp : PreV s H C b Pc As)
    (hg : g.method = m) (hn : As.length = n) (hsize : g.locals.size = nL) (hstack : g.stack = As.reverse ++ .ref b :: rest) (hW : 2 * g.monitorRoom + (rest.map fun v => v.category).sum ≤ 8) (hdg : decode cc g.pc = .ok (.invokevirtual index, 3)) (hf : cells + mc ≤ R.cells ∧ slots + ms ≤ R.slots) :
    va_Run p l e R s m args below meth c H locs cells slots mc ms g rest (Qc (Value.ref b :: As).toArray) free := by
  obtain ⟨⟨hrc, hrs, hfr, hlo, hws, hcw⟩, hcode, hini, hy, hlen, hl, hin, hse⟩ := cw
  have hK : Back l R p e below s args y 3 8 (PreOf R mc ms Pc) (PostOf Qc mc ms free) := va_backW (hh := hh) (bytes := bytes) (maxL := maxL) (ret := ret) hM hp.1 hrc hrs hfr hlo hws hcw (fun a' U hW => word_at hW (Or.inl (by first | rfl | simp [Cond.onTables, Cond.keeps, Cond.steady])) hini)
  obtain ⟨hx, hb, hml, ho, -⟩ := S
  obtain ⟨-, ⟨cellB, hcB, hoB, hclB⟩, hPc⟩ := hp
  intro T hT X
  obtain ⟨v, vm₁, ⟨U', l2, c2, s2⟩, hW₁, X', ⟨g', mk, t, L, e1, e2, hq, h1, hL, h2, h3⟩, st⟩ := vx_callVW X hx (C := C) (hh := hh) (bytes := bytes) (maxL := maxL) (ret := ret) ho hl hin hse hcode hy hK (by rw [hT]; exact hcB) hoB hclB hg (hsize.trans hml.symm) (argsL := As) (rest := rest) (fun sig h => hn.trans (hlen sig h)) hstack hW (by rw [hb]; exact hdg)
    (fun vm₁ hW₁ => ⟨hf.1, hf.2, hPc (T.setVm vm₁) hT hW₁⟩)
  dsimp only [Pt.U, Pt.locs, Pt.cells, Pt.slots] at X' e1 e2 h1 h2 h3 st
  subst h1; subst h2; subst h3
  exact ⟨v, (T.setVm vm₁).calling g' mk (Value.ref b :: As).toArray, t, U', L, hT, X', hL, e1, e2, hq, st⟩
section
variable {y : MethodName} {bytes cc : ByteArray} {maxL nL mc ms n index : Nat} {ret : Option FieldType} {ws : List Cond} {rm : Room} {Pc : Array Value → State → Prop} {Qc : Array Value → State → Outcome → State → Prop} {XC : String → State → State → Prop} {free : Addr → Prop} {Ts : List Cond} {own C : String} {b : Addr} {As rest : List Value} {g : JFrame}
theorem vx_runVX {hh : List (Nat × Nat × Nat × Nat)} (S : CallFix p m c cc nL s args Ts own) (hM : vx_Met l y ws rm Pc Qc XC mc ms free) (cw : vx_CVW R s args own C index y bytes maxL ret hh ws rm mc ms n) (hp : PreV s H C b Pc As)
    (hg : g.method = m) (hn : As.length = n) (hsize : g.locals.size = nL) (hstack : g.stack = As.reverse ++ .ref b :: rest) (hW : 2 * g.monitorRoom + (rest.map fun v => v.category).sum ≤ 8) (hdg : decode cc g.pc = .ok (.invokevirtual index, 3)) (hf : cells + mc ≤ R.cells ∧ slots + ms ≤ R.slots) :
    vx_Run p l e R s m args below meth c H locs cells slots mc ms g rest (Qc (Value.ref b :: As).toArray) XC free := by
  obtain ⟨⟨hrc, hrs, hfr, hlo, hws, hcw⟩, hcode, hini, hy, hlen, hl, hin, hse⟩ := cw
  have hK : vx_Back l R p e below s args y 3 8 (PreOf R mc ms Pc) (PostOf Qc mc ms free) (vx_Post XC mc ms free) := vx_backW (hh := hh) (bytes := bytes) (maxL := maxL) (ret := ret) hM hp.1 hrc hrs hfr hlo hws hcw (fun a' U hW => word_at hW (Or.inl (by first | rfl | simp [Cond.onTables, Cond.keeps, Cond.steady])) hini)
  obtain ⟨hx, hb, hml, ho, -⟩ := S
  obtain ⟨-, ⟨cellB, hcB, hoB, hclB⟩, hPc⟩ := hp
  intro T hT X
  rcases vx_callVX X hx (C := C) (hh := hh) (bytes := bytes) (maxL := maxL) (ret := ret) ho hl hin hse hcode hy hK (by rw [hT]; exact hcB) hoB hclB hg (hsize.trans hml.symm) (argsL := As) (rest := rest) (fun sig h => hn.trans (hlen sig h)) hstack hW (by rw [hb]; exact hdg)
    (fun vm₁ hW₁ => ⟨hf.1, hf.2, hPc (T.setVm vm₁) hT hW₁⟩) with ⟨v, vm₁, ⟨U', l2, c2, s2⟩, hW₁, X', ⟨g', mk, t, L, e1, e2, hq, h1, hL, h2, h3⟩, st⟩ | ⟨q, vm₁, ⟨U', l2, c2, s2⟩, hW₁, X', ⟨g', mk, t, L, E, ce, e1, e2, hq, hce, hcv, hcl, h1, hL, h2, h3⟩, st⟩
  · dsimp only [Pt.U, Pt.locs, Pt.cells, Pt.slots] at X' e1 e2 h1 h2 h3 st
    subst h1; subst h2; subst h3
    exact Or.inl ⟨v, (T.setVm vm₁).calling g' mk (Value.ref b :: As).toArray, t, U', L, hT, X', hL, e1, e2, hq, st⟩
  · dsimp only [Pt.U, Pt.locs, Pt.cells, Pt.slots] at X' e1 e2 h1 h2 h3 st hcl
    subst h1; subst h2; subst h3
    exact Or.inr ⟨q, (T.setVm vm₁).calling g' mk (Value.ref b :: As).toArray, t, U', L, E, ce, hT, X', hL, e1, e2, hq, hce, hcv, vx_cls hW₁ hcl, st⟩
theorem vx_runSX {hh : List (Nat × Nat × Nat × Nat)} (S : CallFix p m c cc nL s args Ts own) (hM : vx_Met l y ws rm Pc Qc XC mc ms free) (cw : vx_CSW R s args own index y bytes maxL ret hh ws rm mc ms n) (hp : PreS s H Pc As)
    (hg : g.method = m) (hn : As.length = n) (hsize : g.locals.size = nL) (hstack : g.stack = As.reverse ++ rest) (hW : 2 * g.monitorRoom + (rest.map fun v => v.category).sum ≤ 8) (hdg : decode cc g.pc = .ok (.invokestatic index, 3)) (hf : cells + mc ≤ R.cells ∧ slots + ms ≤ R.slots) :
    vx_Run p l e R s m args below meth c H locs cells slots mc ms g rest (Qc As.toArray) XC free := by
  obtain ⟨⟨hrc, hrs, hfr, hlo, hws, hcw⟩, hcode, hini, hy, hlen, hl, hstt⟩ := cw
  have hK : vx_Back l R p e below s args y 3 8 (PreOf R mc ms Pc) (PostOf Qc mc ms free) (vx_Post XC mc ms free) := vx_backW (hh := hh) (bytes := bytes) (maxL := maxL) (ret := ret) hM hp.1 hrc hrs hfr hlo hws hcw (fun a' U hW => word_at hW (Or.inl (by first | rfl | simp [Cond.onTables, Cond.keeps, Cond.steady])) hini)
  obtain ⟨hx, hb, hml, ho, -⟩ := S
  intro T hT X
  rcases vx_callSX X hx (hh := hh) (bytes := bytes) (maxL := maxL) (ret := ret) ho hl hstt hini hcode hy hK hg (hsize.trans hml.symm) (argsL := As) (rest := rest) (fun sig h => hn.trans (hlen sig h)) hstack hW (by rw [hb]; exact hdg)
    (fun vm₁ hW₁ => ⟨hf.1, hf.2, hp.2 (T.setVm vm₁) hT hW₁⟩) with ⟨v, vm₁, ⟨U', l2, c2, s2⟩, hW₁, X', ⟨g', mk, t, L, e1, e2, hq, h1, hL, h2, h3⟩, st⟩ | ⟨q, vm₁, ⟨U', l2, c2, s2⟩, hW₁, X', ⟨g', mk, t, L, E, ce, e1, e2, hq, hce, hcv, hcl, h1, hL, h2, h3⟩, st⟩
  · dsimp only [Pt.U, Pt.locs, Pt.cells, Pt.slots] at X' e1 e2 h1 h2 h3 st
    subst h1; subst h2; subst h3
    exact Or.inl ⟨v, (T.setVm vm₁).calling g' mk As.toArray, t, U', L, hT, X', hL, e1, e2, hq, st⟩
  · dsimp only [Pt.U, Pt.locs, Pt.cells, Pt.slots] at X' e1 e2 h1 h2 h3 st hcl
    subst h1; subst h2; subst h3
    exact Or.inr ⟨q, (T.setVm vm₁).calling g' mk As.toArray, t, U', L, E, ce, hT, X', hL, e1, e2, hq, hce, hcv, vx_cls hW₁ hcl, st⟩
end
end VXH
theorem vx_ofWH {l : Launch} {y : MethodName} {ws ws' : List Cond} {rm : Room} {Pc : Array Value → State → Prop} {Qc : Array Value → State → Outcome → State → Prop} {XC : String → State → State → Prop} {mc ms : Nat} {free : Addr → Prop} {cc : ByteArray} {maxL : Nat} {ret : Option FieldType} {hh : List (Nat × Nat × Nat × Nat)}
    (hy : plainName y.cls = true) (hw : ws = Cond.codeWith y cc maxL ret hh :: ws')
    (body : ∀ p e s m args below meth c s₁, BodyLoose p l y (headSpec ws rm) cc maxL ret e s m args below meth c s₁ → c.maxLocals = maxL → Pc args s →
      W p l e (headSpec ws rm).room s m args below meth c s.heap [] 0 0 (vx_MQ below Qc XC args s mc ms free) (entryFrame m args maxL)) : vx_Met l y ws rm Pc Qc XC mc ms free := by
  refine MetFree.of_bodyS (code := cc) (maxLocals := maxL) (ret := ret) hy ?_ ?_
  · intro args s m h hn
    obtain ⟨m9, meth, c, hn9, h1, h2, h3, h4, -, h5, h6, -⟩ := Cond.codeWith_spec (atoms_spec (ws := ws) h _ (by rw [hw]; exact List.mem_cons_self))
    cases hn.symm.trans hn9
    exact ⟨meth, c, h1, h2, h3, h4, h5, h6⟩
  · intro p e s m args below meth c s₁ B hml hP _
    have hh0 : s₁.heap = s.heap := by rw [B.state]; rfl
    obtain ⟨t, a1, o, b1, b2, b3⟩ := body p e s m args below meth c s₁ B hml hP s₁ hh0 (Stand.of_body B)
    exact ⟨t, o, a1, b1, b2, b3⟩
/-! ===== END ===== -/
end
section
/-! names of the program, as the claim prints them (began as NAMES.whole) -/
def RX0 : String := "PackedGraph$ByteRow"
def TX0 : u_T := fun k => match k with
  | 0 => ("PackedGraph$ByteRow", "bytes", "[B", false)
  | _ => ("PackedGraph$ByteRow", "size", "I", false)
def tyX0 : Nat → FieldType := fun k => match k with
  | 0 => .array .byte
  | _ => .int
abbrev wsX00 : List Cond := u_ws RX0 TX0 2
theorem nmX0 : ∀ a, a < 2 → ∀ b, b < 2 → a ≠ b → (TX0 a).2.1 ≠ (TX0 b).2.1 := by decide +kernel
theorem tyX0_ok : ∀ k, k < 2 → parseFieldDescriptor (TX0 k).2.2.1 = some (tyX0 k) := by decide +kernel
abbrev cX0_init : ByteArray := prog_2_method_1_code
def yX0_init : MethodName := ⟨RX0, "<init>", "()V"⟩
abbrev cX0_size : ByteArray := prog_2_method_2_code
def yX0_size : MethodName := ⟨RX0, "size", "()I"⟩
abbrev cX0_at : ByteArray := prog_2_method_3_code
def yX0_at : MethodName := ⟨RX0, "at", "(I)I"⟩
abbrev cX0_append : ByteArray := prog_2_method_4_code
def yX0_append : MethodName := ⟨RX0, "append", "(JI)V"⟩
abbrev cX0_appendAll : ByteArray := prog_2_method_5_code
def yX0_appendAll : MethodName := ⟨RX0, "appendAll", "([B)V"⟩
abbrev cX0_cut : ByteArray := prog_2_method_6_code
def yX0_cut : MethodName := ⟨RX0, "cut", "(I)V"⟩
abbrev cX0_bigEndian : ByteArray := prog_2_method_7_code
def yX0_bigEndian : MethodName := ⟨RX0, "bigEndian", "(II)J"⟩
abbrev cX0_slice : ByteArray := prog_2_method_8_code
def yX0_slice : MethodName := ⟨RX0, "slice", "(II)[B"⟩
abbrev cX0_hasSameBytes : ByteArray := prog_2_method_9_code
def yX0_hasSameBytes : MethodName := ⟨RX0, "hasSameBytes", "(LPackedGraph$ByteRow;)Z"⟩
abbrev cX0_grow : ByteArray := prog_2_method_10_code
def yX0_grow : MethodName := ⟨RX0, "grow", "(I)V"⟩
def RX1 : String := "PackedGraph$Characters"
abbrev cX1_firstWrong : ByteArray := prog_3_method_2_code
def yX1_firstWrong : MethodName := ⟨RX1, "firstWrong", "(LPackedGraph$ByteRow;II)I"⟩
abbrev cX1_lengthAt : ByteArray := prog_3_method_3_code
def yX1_lengthAt : MethodName := ⟨RX1, "lengthAt", "(LPackedGraph$ByteRow;II)I"⟩
abbrev cX1_saidLength : ByteArray := prog_3_method_4_code
def yX1_saidLength : MethodName := ⟨RX1, "saidLength", "(I)I"⟩
abbrev cX1_shortestLength : ByteArray := prog_3_method_5_code
def yX1_shortestLength : MethodName := ⟨RX1, "shortestLength", "(I)I"⟩
def RX2 : String := "PackedGraph$Lead"
def TX2 : u_T := fun k => match k with
  | 0 => ("PackedGraph$Lead", "kind", "I", false)
  | 1 => ("PackedGraph$Lead", "head", "I", false)
  | 2 => ("PackedGraph$Lead", "body", "J", false)
  | _ => ("PackedGraph$Lead", "type", "I", false)
def tyX2 : Nat → FieldType := fun k => match k with
  | 0 => .int
  | 1 => .int
  | 2 => .long
  | _ => .int
abbrev wsX20 : List Cond := u_ws RX2 TX2 4
theorem nmX2 : ∀ a, a < 4 → ∀ b, b < 4 → a ≠ b → (TX2 a).2.1 ≠ (TX2 b).2.1 := by decide +kernel
theorem tyX2_ok : ∀ k, k < 4 → parseFieldDescriptor (TX2 k).2.2.1 = some (tyX2 k) := by decide +kernel
abbrev cX2_init : ByteArray := prog_4_method_1_code
def yX2_init : MethodName := ⟨RX2, "<init>", "()V"⟩
abbrev cX2_look : ByteArray := prog_4_method_2_code
def yX2_look : MethodName := ⟨RX2, "look", "(LPackedGraph$ByteRow;I)V"⟩
abbrev cX2_isGroup : ByteArray := prog_4_method_3_code
def yX2_isGroup : MethodName := ⟨RX2, "isGroup", "()Z"⟩
abbrev cX2_ownBytes : ByteArray := prog_4_method_4_code
def yX2_ownBytes : MethodName := ⟨RX2, "ownBytes", "()J"⟩
abbrev cX2_lookUp : ByteArray := prog_4_method_5_code
def yX2_lookUp : MethodName := ⟨RX2, "lookUp", "(LPackedGraph$ByteRow;II)V"⟩
abbrev cX2_lookAtType : ByteArray := prog_4_method_6_code
def yX2_lookAtType : MethodName := ⟨RX2, "lookAtType", "(LPackedGraph$ByteRow;I)V"⟩
abbrev cX2_take : ByteArray := prog_4_method_7_code
def yX2_take : MethodName := ⟨RX2, "take", "(IIJ)V"⟩
def RX3 : String := "PackedGraph$Packer"
def TX3 : u_T := fun k => match k with
  | 0 => ("PackedGraph$Packer", "packed", "LPackedGraph$ByteRow;", true)
  | 1 => ("PackedGraph$Packer", "come", "Ljava/util/ArrayList;", true)
  | 2 => ("PackedGraph$Packer", "most", "I", false)
  | _ => ("PackedGraph$Packer", "failed", "Z", false)
def tyX3 : Nat → FieldType := fun k => match k with
  | 0 => .object "PackedGraph$ByteRow"
  | 1 => .object "java/util/ArrayList"
  | 2 => .int
  | _ => .boolean
abbrev wsX30 : List Cond := u_ws RX3 TX3 4
theorem nmX3 : ∀ a, a < 4 → ∀ b, b < 4 → a ≠ b → (TX3 a).2.1 ≠ (TX3 b).2.1 := by decide +kernel
theorem tyX3_ok : ∀ k, k < 4 → parseFieldDescriptor (TX3 k).2.2.1 = some (tyX3 k) := by decide +kernel
abbrev cX3_init : ByteArray := prog_5_method_1_code
def yX3_init : MethodName := ⟨RX3, "<init>", "()V"⟩
abbrev cX3_write : ByteArray := prog_5_method_2_code
def yX3_write : MethodName := ⟨RX3, "write", "(LPackedGraph$Values;II)Z"⟩
abbrev cX3_writeValue : ByteArray := prog_5_method_3_code
def yX3_writeValue : MethodName := ⟨RX3, "writeValue", "(LPackedGraph$Values;LPackedGraph$Value;I)V"⟩
abbrev cX3_beginGroup : ByteArray := prog_5_method_4_code
def yX3_beginGroup : MethodName := ⟨RX3, "beginGroup", "(LPackedGraph$Value;I)V"⟩
abbrev cX3_writeReference : ByteArray := prog_5_method_5_code
def yX3_writeReference : MethodName := ⟨RX3, "writeReference", "(I)V"⟩
abbrev cX3_writeTime : ByteArray := prog_5_method_6_code
def yX3_writeTime : MethodName := ⟨RX3, "writeTime", "(JI)V"⟩
abbrev cX3_writeRow : ByteArray := prog_5_method_7_code
def yX3_writeRow : MethodName := ⟨RX3, "writeRow", "(LPackedGraph$Value;)V"⟩
abbrev cX3_writeHead : ByteArray := prog_5_method_8_code
def yX3_writeHead : MethodName := ⟨RX3, "writeHead", "(III)V"⟩
abbrev cX3_extensionLead : ByteArray := prog_5_method_9_code
def yX3_extensionLead : MethodName := ⟨RX3, "extensionLead", "(I)I"⟩
abbrev cX3_writeInteger : ByteArray := prog_5_method_10_code
def yX3_writeInteger : MethodName := ⟨RX3, "writeInteger", "(JZ)V"⟩
abbrev cX3_integerStep : ByteArray := prog_5_method_11_code
def yX3_integerStep : MethodName := ⟨RX3, "integerStep", "(JZ)I"⟩
abbrev cX3_writeBytes : ByteArray := prog_5_method_12_code
def yX3_writeBytes : MethodName := ⟨RX3, "writeBytes", "(JI)V"⟩
abbrev cX3_fits : ByteArray := prog_5_method_13_code
def yX3_fits : MethodName := ⟨RX3, "fits", "(I)Z"⟩
def RX4 : String := "PackedGraph$Reader"
def TX4 : u_T := fun k => match k with
  | 0 => ("PackedGraph$Reader", "lead", "LPackedGraph$Lead;", true)
  | 1 => ("PackedGraph$Reader", "groups", "Ljava/util/ArrayList;", true)
  | 2 => ("PackedGraph$Reader", "at", "I", false)
  | 3 => ("PackedGraph$Reader", "code", "I", false)
  | _ => ("PackedGraph$Reader", "place", "I", false)
def tyX4 : Nat → FieldType := fun k => match k with
  | 0 => .object "PackedGraph$Lead"
  | 1 => .object "java/util/ArrayList"
  | 2 => .int
  | 3 => .int
  | _ => .int
abbrev wsX40 : List Cond := u_ws RX4 TX4 5
theorem nmX4 : ∀ a, a < 5 → ∀ b, b < 5 → a ≠ b → (TX4 a).2.1 ≠ (TX4 b).2.1 := by decide +kernel
theorem tyX4_ok : ∀ k, k < 5 → parseFieldDescriptor (TX4 k).2.2.1 = some (tyX4 k) := by decide +kernel
abbrev cX4_init : ByteArray := prog_6_method_1_code
def yX4_init : MethodName := ⟨RX4, "<init>", "()V"⟩
abbrev cX4_readTape : ByteArray := prog_6_method_2_code
def yX4_readTape : MethodName := ⟨RX4, "readTape", "(LPackedGraph$ByteRow;LPackedGraph$Values;)I"⟩
abbrev cX4_endOfValue : ByteArray := prog_6_method_3_code
def yX4_endOfValue : MethodName := ⟨RX4, "endOfValue", "(LPackedGraph$ByteRow;I)I"⟩
abbrev cX4_refuse : ByteArray := prog_6_method_4_code
def yX4_refuse : MethodName := ⟨RX4, "refuse", "(II)I"⟩
abbrev cX4_readValue : ByteArray := prog_6_method_5_code
def yX4_readValue : MethodName := ⟨RX4, "readValue", "(LPackedGraph$ByteRow;LPackedGraph$Values;I)I"⟩
abbrev cX4_readGroup : ByteArray := prog_6_method_6_code
def yX4_readGroup : MethodName := ⟨RX4, "readGroup", "(LPackedGraph$ByteRow;LPackedGraph$Values;II)I"⟩
abbrev cX4_readRow : ByteArray := prog_6_method_7_code
def yX4_readRow : MethodName := ⟨RX4, "readRow", "(LPackedGraph$ByteRow;LPackedGraph$Values;I)I"⟩
abbrev cX4_readTime : ByteArray := prog_6_method_8_code
def yX4_readTime : MethodName := ⟨RX4, "readTime", "(LPackedGraph$ByteRow;LPackedGraph$Values;I)I"⟩
abbrev cX4_readReference : ByteArray := prog_6_method_9_code
def yX4_readReference : MethodName := ⟨RX4, "readReference", "(LPackedGraph$ByteRow;I)I"⟩
abbrev cX4_readPlain : ByteArray := prog_6_method_10_code
def yX4_readPlain : MethodName := ⟨RX4, "readPlain", "(LPackedGraph$ByteRow;LPackedGraph$Values;I)I"⟩
abbrev cX4_readInteger : ByteArray := prog_6_method_11_code
def yX4_readInteger : MethodName := ⟨RX4, "readInteger", "(LPackedGraph$ByteRow;I)J"⟩
abbrev cX4_keepPlain : ByteArray := prog_6_method_12_code
def yX4_keepPlain : MethodName := ⟨RX4, "keepPlain", "(LPackedGraph$Values;IIJI)I"⟩
def RX5 : String := "PackedGraph$Value"
def TX5 : u_T := fun k => match k with
  | 0 => ("PackedGraph$Value", "kind", "I", true)
  | 1 => ("PackedGraph$Value", "index", "I", true)
  | 2 => ("PackedGraph$Value", "number", "J", true)
  | 3 => ("PackedGraph$Value", "detail", "I", true)
  | 4 => ("PackedGraph$Value", "bytes", "[B", true)
  | 5 => ("PackedGraph$Value", "parts", "[I", false)
  | 6 => ("PackedGraph$Value", "held", "I", false)
  | _ => ("PackedGraph$Value", "turn", "I", false)
def tyX5 : Nat → FieldType := fun k => match k with
  | 0 => .int
  | 1 => .int
  | 2 => .long
  | 3 => .int
  | 4 => .array .byte
  | 5 => .array .int
  | 6 => .int
  | _ => .int
abbrev wsX50 : List Cond := u_ws RX5 TX5 8
theorem nmX5 : ∀ a, a < 8 → ∀ b, b < 8 → a ≠ b → (TX5 a).2.1 ≠ (TX5 b).2.1 := by decide +kernel
theorem tyX5_ok : ∀ k, k < 8 → parseFieldDescriptor (TX5 k).2.2.1 = some (tyX5 k) := by decide +kernel
abbrev cX5_init : ByteArray := prog_7_method_1_code
def yX5_init : MethodName := ⟨RX5, "<init>", "(IIJI[B)V"⟩
abbrev cX5_isGroup : ByteArray := prog_7_method_2_code
def yX5_isGroup : MethodName := ⟨RX5, "isGroup", "()Z"⟩
abbrev cX5_isHigh : ByteArray := prog_7_method_3_code
def yX5_isHigh : MethodName := ⟨RX5, "isHigh", "()Z"⟩
abbrev cX5_length : ByteArray := prog_7_method_4_code
def yX5_length : MethodName := ⟨RX5, "length", "()I"⟩
abbrev cX5_append : ByteArray := prog_7_method_5_code
def yX5_append : MethodName := ⟨RX5, "append", "(I)V"⟩
def RX6 : String := "PackedGraph$Values"
def TX6 : u_T := fun k => match k with
  | 0 => ("PackedGraph$Values", "all", "Ljava/util/ArrayList;", true)
  | 1 => ("PackedGraph$Values", "partCount", "I", false)
  | _ => ("PackedGraph$Values", "byteCount", "I", false)
def tyX6 : Nat → FieldType := fun k => match k with
  | 0 => .object "java/util/ArrayList"
  | 1 => .int
  | _ => .int
abbrev wsX60 : List Cond := u_ws RX6 TX6 3
theorem nmX6 : ∀ a, a < 3 → ∀ b, b < 3 → a ≠ b → (TX6 a).2.1 ≠ (TX6 b).2.1 := by decide +kernel
theorem tyX6_ok : ∀ k, k < 3 → parseFieldDescriptor (TX6 k).2.2.1 = some (tyX6 k) := by decide +kernel
abbrev cX6_init : ByteArray := prog_8_method_1_code
def yX6_init : MethodName := ⟨RX6, "<init>", "()V"⟩
abbrev cX6_size : ByteArray := prog_8_method_2_code
def yX6_size : MethodName := ⟨RX6, "size", "()I"⟩
abbrev cX6_has : ByteArray := prog_8_method_3_code
def yX6_has : MethodName := ⟨RX6, "has", "(I)Z"⟩
abbrev cX6_at : ByteArray := prog_8_method_4_code
def yX6_at : MethodName := ⟨RX6, "at", "(I)LPackedGraph$Value;"⟩
abbrev cX6_takes : ByteArray := prog_8_method_5_code
def yX6_takes : MethodName := ⟨RX6, "takes", "(I)Z"⟩
abbrev cX6_takesParts : ByteArray := prog_8_method_6_code
def yX6_takesParts : MethodName := ⟨RX6, "takesParts", "(J)Z"⟩
abbrev cX6_hold : ByteArray := prog_8_method_7_code
def yX6_hold : MethodName := ⟨RX6, "hold", "(I)V"⟩
abbrev cX6_keep : ByteArray := prog_8_method_8_code
def yX6_keep : MethodName := ⟨RX6, "keep", "(IJI[B)I"⟩
abbrev cX6_keepOnly : ByteArray := prog_8_method_9_code
def yX6_keepOnly : MethodName := ⟨RX6, "keepOnly", "(III)V"⟩
def RX7 : String := "PackedGraph"
def TX7 : u_T := fun k => match k with
  | 0 => ("PackedGraph", "tape", "LPackedGraph$ByteRow;", true)
  | 1 => ("PackedGraph", "values", "LPackedGraph$Values;", true)
  | 2 => ("PackedGraph", "reader", "LPackedGraph$Reader;", true)
  | 3 => ("PackedGraph", "out", "LPackedGraph$Packer;", true)
  | 4 => ("PackedGraph", "left", "LPackedGraph$Packer;", true)
  | _ => ("PackedGraph", "right", "LPackedGraph$Packer;", true)
def tyX7 : Nat → FieldType := fun k => match k with
  | 0 => .object "PackedGraph$ByteRow"
  | 1 => .object "PackedGraph$Values"
  | 2 => .object "PackedGraph$Reader"
  | 3 => .object "PackedGraph$Packer"
  | 4 => .object "PackedGraph$Packer"
  | _ => .object "PackedGraph$Packer"
abbrev wsX70 : List Cond := u_ws RX7 TX7 6
theorem nmX7 : ∀ a, a < 6 → ∀ b, b < 6 → a ≠ b → (TX7 a).2.1 ≠ (TX7 b).2.1 := by decide +kernel
theorem tyX7_ok : ∀ k, k < 6 → parseFieldDescriptor (TX7 k).2.2.1 = some (tyX7 k) := by decide +kernel
abbrev cX7_init : ByteArray := prog_1_method_1_code
def yX7_init : MethodName := ⟨RX7, "<init>", "()V"⟩
abbrev cX7_feed : ByteArray := prog_1_method_2_code
def yX7_feed : MethodName := ⟨RX7, "feed", "(IIIII)I"⟩
abbrev cX7_end : ByteArray := prog_1_method_3_code
def yX7_end : MethodName := ⟨RX7, "end", "(I)V"⟩
abbrev cX7_unpack : ByteArray := prog_1_method_4_code
def yX7_unpack : MethodName := ⟨RX7, "unpack", "()I"⟩
abbrev cX7_fault : ByteArray := prog_1_method_5_code
def yX7_fault : MethodName := ⟨RX7, "fault", "(I)I"⟩
abbrev cX7_skip : ByteArray := prog_1_method_6_code
def yX7_skip : MethodName := ⟨RX7, "skip", "(I)I"⟩
abbrev cX7_pack : ByteArray := prog_1_method_7_code
def yX7_pack : MethodName := ⟨RX7, "pack", "(I)I"⟩
abbrev cX7_shown : ByteArray := prog_1_method_8_code
def yX7_shown : MethodName := ⟨RX7, "shown", "(I)I"⟩
abbrev cX7_nil : ByteArray := prog_1_method_9_code
def yX7_nil : MethodName := ⟨RX7, "nil", "()I"⟩
abbrev cX7_truth : ByteArray := prog_1_method_10_code
def yX7_truth : MethodName := ⟨RX7, "truth", "(Z)I"⟩
abbrev cX7_integer : ByteArray := prog_1_method_11_code
def yX7_integer : MethodName := ⟨RX7, "integer", "(JZ)I"⟩
abbrev cX7_real : ByteArray := prog_1_method_12_code
def yX7_real : MethodName := ⟨RX7, "real", "(JZ)I"⟩
abbrev cX7_row : ByteArray := prog_1_method_13_code
def yX7_row : MethodName := ⟨RX7, "row", "(I)I"⟩
abbrev cX7_extension : ByteArray := prog_1_method_14_code
def yX7_extension : MethodName := ⟨RX7, "extension", "(I)I"⟩
abbrev cX7_time : ByteArray := prog_1_method_15_code
def yX7_time : MethodName := ⟨RX7, "time", "(JI)I"⟩
abbrev cX7_group : ByteArray := prog_1_method_16_code
def yX7_group : MethodName := ⟨RX7, "group", "(I)I"⟩
abbrev cX7_add : ByteArray := prog_1_method_17_code
def yX7_add : MethodName := ⟨RX7, "add", "(II)I"⟩
abbrev cX7_put : ByteArray := prog_1_method_18_code
def yX7_put : MethodName := ⟨RX7, "put", "(III)I"⟩
abbrev cX7_about : ByteArray := prog_1_method_19_code
def yX7_about : MethodName := ⟨RX7, "about", "(II)I"⟩
abbrev cX7_number : ByteArray := prog_1_method_20_code
def yX7_number : MethodName := ⟨RX7, "number", "(I)J"⟩
abbrev cX7_part : ByteArray := prog_1_method_21_code
def yX7_part : MethodName := ⟨RX7, "part", "(II)I"⟩
abbrev cX7_same : ByteArray := prog_1_method_22_code
def yX7_same : MethodName := ⟨RX7, "same", "(II)Z"⟩
abbrev cX7_find : ByteArray := prog_1_method_23_code
def yX7_find : MethodName := ⟨RX7, "find", "(II)I"⟩
abbrev cX7_count : ByteArray := prog_1_method_24_code
def yX7_count : MethodName := ⟨RX7, "count", "(I)I"⟩
abbrev cX7_clear : ByteArray := prog_1_method_25_code
def yX7_clear : MethodName := ⟨RX7, "clear", "()I"⟩
abbrev cX7_needValue : ByteArray := prog_1_method_26_code
def yX7_needValue : MethodName := ⟨RX7, "needValue", "(I)V"⟩
abbrev cX7_needKind : ByteArray := prog_1_method_27_code
def yX7_needKind : MethodName := ⟨RX7, "needKind", "(II)V"⟩
abbrev cX7_needRoom : ByteArray := prog_1_method_28_code
def yX7_needRoom : MethodName := ⟨RX7, "needRoom", "(I)V"⟩
abbrev cX7_needParts : ByteArray := prog_1_method_29_code
def yX7_needParts : MethodName := ⟨RX7, "needParts", "(I)V"⟩
abbrev cX7_keepTape : ByteArray := prog_1_method_30_code
def yX7_keepTape : MethodName := ⟨RX7, "keepTape", "(II)I"⟩
def RX8 : String := "PackedGraphModel"
def TX8 : u_T := fun k => match k with
  | 0 => ("PackedGraphModel", "thrown", "I", false)
  | 1 => ("PackedGraphModel", "tape", "[B", true)
  | 2 => ("PackedGraphModel", "tapeSize", "I", false)
  | 3 => ("PackedGraphModel", "out", "[B", true)
  | 4 => ("PackedGraphModel", "outSize", "I", false)
  | 5 => ("PackedGraphModel", "values", "I", false)
  | 6 => ("PackedGraphModel", "kinds", "[I", true)
  | 7 => ("PackedGraphModel", "numbers", "[J", true)
  | 8 => ("PackedGraphModel", "highs", "[Z", true)
  | 9 => ("PackedGraphModel", "extras", "[I", true)
  | 10 => ("PackedGraphModel", "firsts", "[I", true)
  | 11 => ("PackedGraphModel", "lasts", "[I", true)
  | 12 => ("PackedGraphModel", "sizes", "[I", true)
  | 13 => ("PackedGraphModel", "links", "I", false)
  | 14 => ("PackedGraphModel", "linked", "[I", true)
  | 15 => ("PackedGraphModel", "nexts", "[I", true)
  | 16 => ("PackedGraphModel", "bytes", "[B", true)
  | 17 => ("PackedGraphModel", "byteCount", "I", false)
  | 18 => ("PackedGraphModel", "one", "[B", true)
  | 19 => ("PackedGraphModel", "other", "[B", true)
  | 20 => ("PackedGraphModel", "packed", "I", false)
  | 21 => ("PackedGraphModel", "packing", "I", false)
  | 22 => ("PackedGraphModel", "inPacking", "[I", true)
  | 23 => ("PackedGraphModel", "order", "[I", true)
  | 24 => ("PackedGraphModel", "come", "I", false)
  | 25 => ("PackedGraphModel", "full", "Z", false)
  | 26 => ("PackedGraphModel", "open", "I", false)
  | 27 => ("PackedGraphModel", "pileValue", "[I", true)
  | 28 => ("PackedGraphModel", "pileLeft", "[J", true)
  | 29 => ("PackedGraphModel", "faultCode", "I", false)
  | 30 => ("PackedGraphModel", "faultPlace", "I", false)
  | 31 => ("PackedGraphModel", "at", "I", false)
  | 32 => ("PackedGraphModel", "begun", "[I", true)
  | 33 => ("PackedGraphModel", "begunCount", "I", false)
  | 34 => ("PackedGraphModel", "got", "I", false)
  | _ => ("PackedGraphModel", "promised", "J", false)
def tyX8 : Nat → FieldType := fun k => match k with
  | 0 => .int
  | 1 => .array .byte
  | 2 => .int
  | 3 => .array .byte
  | 4 => .int
  | 5 => .int
  | 6 => .array .int
  | 7 => .array .long
  | 8 => .array .boolean
  | 9 => .array .int
  | 10 => .array .int
  | 11 => .array .int
  | 12 => .array .int
  | 13 => .int
  | 14 => .array .int
  | 15 => .array .int
  | 16 => .array .byte
  | 17 => .int
  | 18 => .array .byte
  | 19 => .array .byte
  | 20 => .int
  | 21 => .int
  | 22 => .array .int
  | 23 => .array .int
  | 24 => .int
  | 25 => .boolean
  | 26 => .int
  | 27 => .array .int
  | 28 => .array .long
  | 29 => .int
  | 30 => .int
  | 31 => .int
  | 32 => .array .int
  | 33 => .int
  | 34 => .int
  | _ => .long
abbrev wsX80 : List Cond := u_ws RX8 TX8 36
theorem nmX8 : ∀ a, a < 36 → ∀ b, b < 36 → a ≠ b → (TX8 a).2.1 ≠ (TX8 b).2.1 := by decide +kernel
theorem tyX8_ok : ∀ k, k < 36 → parseFieldDescriptor (TX8 k).2.2.1 = some (tyX8 k) := by decide +kernel
abbrev cX8_init : ByteArray := prog_10_method_1_code
def yX8_init : MethodName := ⟨RX8, "<init>", "()V"⟩
abbrev cX8_thrown : ByteArray := prog_10_method_2_code
def yX8_thrown : MethodName := ⟨RX8, "thrown", "()I"⟩
abbrev cX8_kindOf : ByteArray := prog_10_method_3_code
def yX8_kindOf : MethodName := ⟨RX8, "kindOf", "(I)I"⟩
abbrev cX8_width : ByteArray := prog_10_method_4_code
def yX8_width : MethodName := ⟨RX8, "width", "(I)I"⟩
abbrev cX8_number : ByteArray := prog_10_method_5_code
def yX8_number : MethodName := ⟨RX8, "number", "([BII)J"⟩
abbrev cX8_many : ByteArray := prog_10_method_6_code
def yX8_many : MethodName := ⟨RX8, "many", "(II)J"⟩
abbrev cX8_headOf : ByteArray := prog_10_method_7_code
def yX8_headOf : MethodName := ⟨RX8, "headOf", "(I)I"⟩
abbrev cX8_isGroup : ByteArray := prog_10_method_8_code
def yX8_isGroup : MethodName := ⟨RX8, "isGroup", "(I)Z"⟩
abbrev cX8_skip : ByteArray := prog_10_method_9_code
def yX8_skip : MethodName := ⟨RX8, "skip", "(I)I"⟩
abbrev cX8_goodPart : ByteArray := prog_10_method_10_code
def yX8_goodPart : MethodName := ⟨RX8, "goodPart", "([BII)I"⟩
abbrev cX8_make : ByteArray := prog_10_method_11_code
def yX8_make : MethodName := ⟨RX8, "make", "(IJ)I"⟩
abbrev cX8_makeRow : ByteArray := prog_10_method_12_code
def yX8_makeRow : MethodName := ⟨RX8, "makeRow", "(III)I"⟩
abbrev cX8_link : ByteArray := prog_10_method_13_code
def yX8_link : MethodName := ⟨RX8, "link", "(II)V"⟩
abbrev cX8_isValue : ByteArray := prog_10_method_14_code
def yX8_isValue : MethodName := ⟨RX8, "isValue", "(I)Z"⟩
abbrev cX8_nil : ByteArray := prog_10_method_15_code
def yX8_nil : MethodName := ⟨RX8, "nil", "()I"⟩
abbrev cX8_truth : ByteArray := prog_10_method_16_code
def yX8_truth : MethodName := ⟨RX8, "truth", "(Z)I"⟩
abbrev cX8_integer : ByteArray := prog_10_method_17_code
def yX8_integer : MethodName := ⟨RX8, "integer", "(JZ)I"⟩
abbrev cX8_real : ByteArray := prog_10_method_18_code
def yX8_real : MethodName := ⟨RX8, "real", "(JZ)I"⟩
abbrev cX8_row : ByteArray := prog_10_method_19_code
def yX8_row : MethodName := ⟨RX8, "row", "(I)I"⟩
abbrev cX8_extension : ByteArray := prog_10_method_20_code
def yX8_extension : MethodName := ⟨RX8, "extension", "(I)I"⟩
abbrev cX8_time : ByteArray := prog_10_method_21_code
def yX8_time : MethodName := ⟨RX8, "time", "(JI)I"⟩
abbrev cX8_group : ByteArray := prog_10_method_22_code
def yX8_group : MethodName := ⟨RX8, "group", "(I)I"⟩
abbrev cX8_add : ByteArray := prog_10_method_23_code
def yX8_add : MethodName := ⟨RX8, "add", "(II)I"⟩
abbrev cX8_put : ByteArray := prog_10_method_24_code
def yX8_put : MethodName := ⟨RX8, "put", "(III)I"⟩
abbrev cX8_fail : ByteArray := prog_10_method_25_code
def yX8_fail : MethodName := ⟨RX8, "fail", "(II)Z"⟩
abbrev cX8_readOne : ByteArray := prog_10_method_26_code
def yX8_readOne : MethodName := ⟨RX8, "readOne", "()Z"⟩
abbrev cX8_readPlain : ByteArray := prog_10_method_27_code
def yX8_readPlain : MethodName := ⟨RX8, "readPlain", "(III)V"⟩
abbrev cX8_integerAt : ByteArray := prog_10_method_28_code
def yX8_integerAt : MethodName := ⟨RX8, "integerAt", "(II)J"⟩
abbrev cX8_refer : ByteArray := prog_10_method_29_code
def yX8_refer : MethodName := ⟨RX8, "refer", "(III)Z"⟩
abbrev cX8_readGroup : ByteArray := prog_10_method_30_code
def yX8_readGroup : MethodName := ⟨RX8, "readGroup", "(IJI)Z"⟩
abbrev cX8_readAll : ByteArray := prog_10_method_31_code
def yX8_readAll : MethodName := ⟨RX8, "readAll", "()Z"⟩
abbrev cX8_unpack : ByteArray := prog_10_method_32_code
def yX8_unpack : MethodName := ⟨RX8, "unpack", "()I"⟩
abbrev cX8_fault : ByteArray := prog_10_method_33_code
def yX8_fault : MethodName := ⟨RX8, "fault", "(I)I"⟩
abbrev cX8_byteTo : ByteArray := prog_10_method_34_code
def yX8_byteTo : MethodName := ⟨RX8, "byteTo", "([BI)V"⟩
abbrev cX8_numberTo : ByteArray := prog_10_method_35_code
def yX8_numberTo : MethodName := ⟨RX8, "numberTo", "([BJI)V"⟩
abbrev cX8_countTo : ByteArray := prog_10_method_36_code
def yX8_countTo : MethodName := ⟨RX8, "countTo", "([BIIIIII)V"⟩
abbrev cX8_integerSize : ByteArray := prog_10_method_37_code
def yX8_integerSize : MethodName := ⟨RX8, "integerSize", "(JZ)I"⟩
abbrev cX8_integerTo : ByteArray := prog_10_method_38_code
def yX8_integerTo : MethodName := ⟨RX8, "integerTo", "([BJZ)V"⟩
abbrev cX8_extensionTo : ByteArray := prog_10_method_39_code
def yX8_extensionTo : MethodName := ⟨RX8, "extensionTo", "([BII)V"⟩
abbrev cX8_bytesTo : ByteArray := prog_10_method_40_code
def yX8_bytesTo : MethodName := ⟨RX8, "bytesTo", "([BI)V"⟩
abbrev cX8_plainTo : ByteArray := prog_10_method_41_code
def yX8_plainTo : MethodName := ⟨RX8, "plainTo", "([BI)V"⟩
abbrev cX8_timeTo : ByteArray := prog_10_method_42_code
def yX8_timeTo : MethodName := ⟨RX8, "timeTo", "([BJI)V"⟩
abbrev cX8_valueTo : ByteArray := prog_10_method_43_code
def yX8_valueTo : MethodName := ⟨RX8, "valueTo", "([BI)Z"⟩
abbrev cX8_packTo : ByteArray := prog_10_method_44_code
def yX8_packTo : MethodName := ⟨RX8, "packTo", "([BI)Z"⟩
abbrev cX8_pack : ByteArray := prog_10_method_45_code
def yX8_pack : MethodName := ⟨RX8, "pack", "(I)I"⟩
abbrev cX8_shown : ByteArray := prog_10_method_46_code
def yX8_shown : MethodName := ⟨RX8, "shown", "(I)I"⟩
abbrev cX8_isSamePacked : ByteArray := prog_10_method_47_code
def yX8_isSamePacked : MethodName := ⟨RX8, "isSamePacked", "(II)Z"⟩
abbrev cX8_same : ByteArray := prog_10_method_48_code
def yX8_same : MethodName := ⟨RX8, "same", "(II)Z"⟩
abbrev cX8_find : ByteArray := prog_10_method_49_code
def yX8_find : MethodName := ⟨RX8, "find", "(II)I"⟩
abbrev cX8_feed : ByteArray := prog_10_method_50_code
def yX8_feed : MethodName := ⟨RX8, "feed", "(IIIII)I"⟩
abbrev cX8_end : ByteArray := prog_10_method_51_code
def yX8_end : MethodName := ⟨RX8, "end", "(I)V"⟩
abbrev cX8_about : ByteArray := prog_10_method_52_code
def yX8_about : MethodName := ⟨RX8, "about", "(II)I"⟩
abbrev cX8_number_ : ByteArray := prog_10_method_53_code
def yX8_number_ : MethodName := ⟨RX8, "number", "(I)J"⟩
abbrev cX8_part : ByteArray := prog_10_method_54_code
def yX8_part : MethodName := ⟨RX8, "part", "(II)I"⟩
abbrev cX8_count : ByteArray := prog_10_method_55_code
def yX8_count : MethodName := ⟨RX8, "count", "(I)I"⟩
abbrev cX8_clear : ByteArray := prog_10_method_56_code
def yX8_clear : MethodName := ⟨RX8, "clear", "()I"⟩
def RJxa1e45 : String := "java/util/AbstractCollection"
abbrev cJxa1e45_init_da8c8 : ByteArray := prog_36_method_1_code
def yJxa1e45_init_da8c8 : MethodName := ⟨RJxa1e45, "<init>", "()V"⟩
def RJxc12de : String := "java/util/AbstractList"
abbrev cJxc12de_init_da8c8 : ByteArray := prog_37_method_1_code
def yJxc12de_init_da8c8 : MethodName := ⟨RJxc12de, "<init>", "()V"⟩
def RJx4a65c : String := "java/util/ArrayList"
def TJx4a65c : u_T := fun k => match k with
  | 0 => ("java/util/AbstractList", "modCount", "I", false)
  | 1 => ("java/util/ArrayList", "elementData", "[Ljava/lang/Object;", false)
  | _ => ("java/util/ArrayList", "size", "I", false)
def tyJx4a65c : Nat → FieldType := fun k => match k with
  | 0 => .int
  | 1 => .array (.object "java/lang/Object")
  | _ => .int
abbrev wsJx4a65c0 : List Cond := u_ws RJx4a65c TJx4a65c 3
theorem nmJx4a65c : ∀ a, a < 3 → ∀ b, b < 3 → a ≠ b → (TJx4a65c a).2.1 ≠ (TJx4a65c b).2.1 := by decide +kernel
theorem tyJx4a65c_ok : ∀ k, k < 3 → parseFieldDescriptor (TJx4a65c k).2.2.1 = some (tyJx4a65c k) := by decide +kernel
abbrev cJx4a65c_init_da8c8 : ByteArray := prog_38_method_2_code
def yJx4a65c_init_da8c8 : MethodName := ⟨RJx4a65c, "<init>", "()V"⟩
abbrev cJx4a65c_grow_92f84 : ByteArray := prog_38_method_6_code
def yJx4a65c_grow_92f84 : MethodName := ⟨RJx4a65c, "grow", "(I)[Ljava/lang/Object;"⟩
abbrev cJx4a65c_grow_d5877 : ByteArray := prog_38_method_7_code
def yJx4a65c_grow_d5877 : MethodName := ⟨RJx4a65c, "grow", "()[Ljava/lang/Object;"⟩
abbrev cJx4a65c_size_8abf5 : ByteArray := prog_38_method_8_code
def yJx4a65c_size_8abf5 : MethodName := ⟨RJx4a65c, "size", "()I"⟩
abbrev cJx4a65c_elementData_915e3 : ByteArray := prog_38_method_18_code
def yJx4a65c_elementData_915e3 : MethodName := ⟨RJx4a65c, "elementData", "(I)Ljava/lang/Object;"⟩
abbrev cJx4a65c_get_915e3 : ByteArray := prog_38_method_20_code
def yJx4a65c_get_915e3 : MethodName := ⟨RJx4a65c, "get", "(I)Ljava/lang/Object;"⟩
abbrev cJx4a65c_add_72be8 : ByteArray := prog_38_method_24_code
def yJx4a65c_add_72be8 : MethodName := ⟨RJx4a65c, "add", "(Ljava/lang/Object;[Ljava/lang/Object;I)V"⟩
abbrev cJx4a65c_add_9ea2d : ByteArray := prog_38_method_25_code
def yJx4a65c_add_9ea2d : MethodName := ⟨RJx4a65c, "add", "(Ljava/lang/Object;)Z"⟩
abbrev cJx4a65c_remove_915e3 : ByteArray := prog_38_method_29_code
def yJx4a65c_remove_915e3 : MethodName := ⟨RJx4a65c, "remove", "(I)Ljava/lang/Object;"⟩
abbrev cJx4a65c_fastRemove_b59b0 : ByteArray := prog_38_method_39_code
def yJx4a65c_fastRemove_b59b0 : MethodName := ⟨RJx4a65c, "fastRemove", "([Ljava/lang/Object;I)V"⟩
abbrev cJx4a65c_clear_da8c8 : ByteArray := prog_38_method_40_code
def yJx4a65c_clear_da8c8 : MethodName := ⟨RJx4a65c, "clear", "()V"⟩
def RJ7 : String := "java/util/Arrays"
abbrev cJ7_copyOf_1904c : ByteArray := prog_39_method_119_code
def yJ7_copyOf_1904c : MethodName := ⟨RJ7, "copyOf", "([Ljava/lang/Object;I)[Ljava/lang/Object;"⟩
abbrev cJ7_copyOf_6403c : ByteArray := prog_39_method_120_code
def yJ7_copyOf_6403c : MethodName := ⟨RJ7, "copyOf", "([Ljava/lang/Object;ILjava/lang/Class;)[Ljava/lang/Object;"⟩
abbrev cJ7_copyOf_9075b : ByteArray := prog_39_method_121_code
def yJ7_copyOf_9075b : MethodName := ⟨RJ7, "copyOf", "([BI)[B"⟩
abbrev cJ7_copyOf_59c91 : ByteArray := prog_39_method_123_code
def yJ7_copyOf_59c91 : MethodName := ⟨RJ7, "copyOf", "([II)[I"⟩
abbrev cJ7_checkLength_df160 : ByteArray := prog_39_method_131_code
def yJ7_checkLength_df160 : MethodName := ⟨RJ7, "checkLength", "(II)V"⟩
abbrev cJ7_copyOfRange_39247 : ByteArray := prog_39_method_132_code
def yJ7_copyOfRange_39247 : MethodName := ⟨RJ7, "copyOfRange", "([BII)[B"⟩
abbrev cJ7_copyOfRangeByte_39247 : ByteArray := prog_39_method_133_code
def yJ7_copyOfRangeByte_39247 : MethodName := ⟨RJ7, "copyOfRangeByte", "([BII)[B"⟩
def RJ15 : String := "java/util/Objects"
abbrev cJ15_checkIndex_7cf53 : ByteArray := prog_42_method_17_code
def yJ15_checkIndex_7cf53 : MethodName := ⟨RJ15, "checkIndex", "(II)I"⟩
def RJ8 : String := "jdk/internal/util/ArraysSupport"
abbrev cJ8_newLength_cabcc : ByteArray := prog_45_method_27_code
def yJ8_newLength_cabcc : MethodName := ⟨RJ8, "newLength", "(III)I"⟩
def RJ3 : String := "jdk/internal/util/Preconditions"
abbrev cJ3_checkIndex_8e157 : ByteArray := prog_46_method_11_code
def yJ3_checkIndex_8e157 : MethodName := ⟨RJ3, "checkIndex", "(IILjava/util/function/BiFunction;)I"⟩
def RL : String := "PackedGraphLaw"
abbrev cL_feed : ByteArray := method_3_code
def yL_feed : MethodName := ⟨RL, "feed", "(LPackedGraph;IIIII[J)I"⟩
abbrev cL_end : ByteArray := method_4_code
def yL_end : MethodName := ⟨RL, "end", "(LPackedGraph;I)I"⟩
abbrev cL_fault : ByteArray := method_5_code
def yL_fault : MethodName := ⟨RL, "fault", "(LPackedGraph;I[J)I"⟩
abbrev cL_skip : ByteArray := method_6_code
def yL_skip : MethodName := ⟨RL, "skip", "(LPackedGraph;I[J)I"⟩
abbrev cL_pack : ByteArray := method_7_code
def yL_pack : MethodName := ⟨RL, "pack", "(LPackedGraph;I[J)I"⟩
abbrev cL_shown : ByteArray := method_8_code
def yL_shown : MethodName := ⟨RL, "shown", "(LPackedGraph;I[J)I"⟩
abbrev cL_nil : ByteArray := method_9_code
def yL_nil : MethodName := ⟨RL, "nil", "(LPackedGraph;[J)I"⟩
abbrev cL_truth : ByteArray := method_10_code
def yL_truth : MethodName := ⟨RL, "truth", "(LPackedGraph;Z[J)I"⟩
abbrev cL_integer : ByteArray := method_11_code
def yL_integer : MethodName := ⟨RL, "integer", "(LPackedGraph;JZ[J)I"⟩
abbrev cL_real : ByteArray := method_12_code
def yL_real : MethodName := ⟨RL, "real", "(LPackedGraph;JZ[J)I"⟩
abbrev cL_row : ByteArray := method_13_code
def yL_row : MethodName := ⟨RL, "row", "(LPackedGraph;I[J)I"⟩
abbrev cL_extension : ByteArray := method_14_code
def yL_extension : MethodName := ⟨RL, "extension", "(LPackedGraph;I[J)I"⟩
abbrev cL_time : ByteArray := method_15_code
def yL_time : MethodName := ⟨RL, "time", "(LPackedGraph;JI[J)I"⟩
abbrev cL_group : ByteArray := method_16_code
def yL_group : MethodName := ⟨RL, "group", "(LPackedGraph;I[J)I"⟩
abbrev cL_add : ByteArray := method_17_code
def yL_add : MethodName := ⟨RL, "add", "(LPackedGraph;II[J)I"⟩
abbrev cL_put : ByteArray := method_18_code
def yL_put : MethodName := ⟨RL, "put", "(LPackedGraph;III[J)I"⟩
abbrev cL_about : ByteArray := method_19_code
def yL_about : MethodName := ⟨RL, "about", "(LPackedGraph;II[J)I"⟩
abbrev cL_number : ByteArray := method_20_code
def yL_number : MethodName := ⟨RL, "number", "(LPackedGraph;I[J)I"⟩
abbrev cL_part : ByteArray := method_21_code
def yL_part : MethodName := ⟨RL, "part", "(LPackedGraph;II[J)I"⟩
abbrev cL_same : ByteArray := method_22_code
def yL_same : MethodName := ⟨RL, "same", "(LPackedGraph;II[J)I"⟩
abbrev cL_find : ByteArray := method_23_code
def yL_find : MethodName := ⟨RL, "find", "(LPackedGraph;II[J)I"⟩
abbrev cL_count : ByteArray := method_24_code
def yL_count : MethodName := ⟨RL, "count", "(LPackedGraph;I[J)I"⟩
abbrev cL_law : ByteArray := code
def yL_law : MethodName := ⟨RL, "law", "([I)Z"⟩
end
section
theorem dX0_init_0 : decode cX0_init 0 = .ok (.aload_n 0, 1) := by decide +kernel
theorem dX0_init_1 : decode cX0_init 1 = .ok (.invokespecial 1, 3) := by decide +kernel
theorem dX0_init_4 : decode cX0_init 4 = .ok (.aload_n 0, 1) := by decide +kernel
theorem dX0_init_5 : decode cX0_init 5 = .ok (.bipush 64, 2) := by decide +kernel
theorem dX0_init_7 : decode cX0_init 7 = .ok (.newarray .byte, 2) := by decide +kernel
theorem dX0_init_9 : decode cX0_init 9 = .ok (.putfield 7, 3) := by decide +kernel
theorem dX0_init_12 : decode cX0_init 12 = .ok (.return_, 1) := by decide +kernel
theorem dX0_size_0 : decode cX0_size 0 = .ok (.aload_n 0, 1) := by decide +kernel
theorem dX0_size_1 : decode cX0_size 1 = .ok (.getfield 13, 3) := by decide +kernel
theorem dX0_size_4 : decode cX0_size 4 = .ok (.ireturn, 1) := by decide +kernel
theorem dX0_at_0 : decode cX0_at 0 = .ok (.aload_n 0, 1) := by decide +kernel
theorem dX0_at_1 : decode cX0_at 1 = .ok (.getfield 7, 3) := by decide +kernel
theorem dX0_at_4 : decode cX0_at 4 = .ok (.iload_n 1, 1) := by decide +kernel
theorem dX0_at_5 : decode cX0_at 5 = .ok (.baload, 1) := by decide +kernel
theorem dX0_at_6 : decode cX0_at 6 = .ok (.sipush 255, 3) := by decide +kernel
theorem dX0_at_9 : decode cX0_at 9 = .ok (.iand, 1) := by decide +kernel
theorem dX0_at_10 : decode cX0_at 10 = .ok (.ireturn, 1) := by decide +kernel
theorem dX0_append_0 : decode cX0_append 0 = .ok (.aload_n 0, 1) := by decide +kernel
theorem dX0_append_1 : decode cX0_append 1 = .ok (.iload_n 3, 1) := by decide +kernel
theorem dX0_append_2 : decode cX0_append 2 = .ok (.invokevirtual 17, 3) := by decide +kernel
theorem dX0_append_5 : decode cX0_append 5 = .ok (.iload_n 3, 1) := by decide +kernel
theorem dX0_append_6 : decode cX0_append 6 = .ok (.iconst 1, 1) := by decide +kernel
theorem dX0_append_7 : decode cX0_append 7 = .ok (.isub, 1) := by decide +kernel
theorem dX0_append_8 : decode cX0_append 8 = .ok (.istore 4, 2) := by decide +kernel
theorem dX0_append_10 : decode cX0_append 10 = .ok (.iload 4, 2) := by decide +kernel
theorem dX0_append_12 : decode cX0_append 12 = .ok (.ifCond .lt 37, 3) := by decide +kernel
theorem dX0_append_15 : decode cX0_append 15 = .ok (.aload_n 0, 1) := by decide +kernel
theorem dX0_append_16 : decode cX0_append 16 = .ok (.getfield 7, 3) := by decide +kernel
theorem dX0_append_19 : decode cX0_append 19 = .ok (.aload_n 0, 1) := by decide +kernel
theorem dX0_append_20 : decode cX0_append 20 = .ok (.getfield 13, 3) := by decide +kernel
theorem dX0_append_23 : decode cX0_append 23 = .ok (.lload_n 1, 1) := by decide +kernel
theorem dX0_append_24 : decode cX0_append 24 = .ok (.bipush 8, 2) := by decide +kernel
theorem dX0_append_26 : decode cX0_append 26 = .ok (.iload 4, 2) := by decide +kernel
theorem dX0_append_28 : decode cX0_append 28 = .ok (.imul, 1) := by decide +kernel
theorem dX0_append_29 : decode cX0_append 29 = .ok (.lshr, 1) := by decide +kernel
theorem dX0_append_30 : decode cX0_append 30 = .ok (.l2i, 1) := by decide +kernel
theorem dX0_append_31 : decode cX0_append 31 = .ok (.i2b, 1) := by decide +kernel
theorem dX0_append_32 : decode cX0_append 32 = .ok (.bastore, 1) := by decide +kernel
theorem dX0_append_33 : decode cX0_append 33 = .ok (.aload_n 0, 1) := by decide +kernel
theorem dX0_append_34 : decode cX0_append 34 = .ok (.dup, 1) := by decide +kernel
theorem dX0_append_35 : decode cX0_append 35 = .ok (.getfield 13, 3) := by decide +kernel
theorem dX0_append_38 : decode cX0_append 38 = .ok (.iconst 1, 1) := by decide +kernel
theorem dX0_append_39 : decode cX0_append 39 = .ok (.iadd, 1) := by decide +kernel
theorem dX0_append_40 : decode cX0_append 40 = .ok (.putfield 13, 3) := by decide +kernel
theorem dX0_append_43 : decode cX0_append 43 = .ok (.iinc 4 (-1), 3) := by decide +kernel
theorem dX0_append_46 : decode cX0_append 46 = .ok (.goto (-36), 3) := by decide +kernel
theorem dX0_append_49 : decode cX0_append 49 = .ok (.return_, 1) := by decide +kernel
theorem dX0_appendAll_0 : decode cX0_appendAll 0 = .ok (.aload_n 0, 1) := by decide +kernel
theorem dX0_appendAll_1 : decode cX0_appendAll 1 = .ok (.aload_n 1, 1) := by decide +kernel
theorem dX0_appendAll_2 : decode cX0_appendAll 2 = .ok (.arraylength, 1) := by decide +kernel
theorem dX0_appendAll_3 : decode cX0_appendAll 3 = .ok (.invokevirtual 17, 3) := by decide +kernel
theorem dX0_appendAll_6 : decode cX0_appendAll 6 = .ok (.aload_n 1, 1) := by decide +kernel
theorem dX0_appendAll_7 : decode cX0_appendAll 7 = .ok (.iconst 0, 1) := by decide +kernel
theorem dX0_appendAll_8 : decode cX0_appendAll 8 = .ok (.aload_n 0, 1) := by decide +kernel
theorem dX0_appendAll_9 : decode cX0_appendAll 9 = .ok (.getfield 7, 3) := by decide +kernel
theorem dX0_appendAll_12 : decode cX0_appendAll 12 = .ok (.aload_n 0, 1) := by decide +kernel
theorem dX0_appendAll_13 : decode cX0_appendAll 13 = .ok (.getfield 13, 3) := by decide +kernel
theorem dX0_appendAll_16 : decode cX0_appendAll 16 = .ok (.aload_n 1, 1) := by decide +kernel
theorem dX0_appendAll_17 : decode cX0_appendAll 17 = .ok (.arraylength, 1) := by decide +kernel
theorem dX0_appendAll_18 : decode cX0_appendAll 18 = .ok (.invokestatic 21, 3) := by decide +kernel
theorem dX0_appendAll_21 : decode cX0_appendAll 21 = .ok (.aload_n 0, 1) := by decide +kernel
theorem dX0_appendAll_22 : decode cX0_appendAll 22 = .ok (.dup, 1) := by decide +kernel
theorem dX0_appendAll_23 : decode cX0_appendAll 23 = .ok (.getfield 13, 3) := by decide +kernel
theorem dX0_appendAll_26 : decode cX0_appendAll 26 = .ok (.aload_n 1, 1) := by decide +kernel
theorem dX0_appendAll_27 : decode cX0_appendAll 27 = .ok (.arraylength, 1) := by decide +kernel
theorem dX0_appendAll_28 : decode cX0_appendAll 28 = .ok (.iadd, 1) := by decide +kernel
theorem dX0_appendAll_29 : decode cX0_appendAll 29 = .ok (.putfield 13, 3) := by decide +kernel
theorem dX0_appendAll_32 : decode cX0_appendAll 32 = .ok (.return_, 1) := by decide +kernel
theorem dX0_cut_0 : decode cX0_cut 0 = .ok (.aload_n 0, 1) := by decide +kernel
theorem dX0_cut_1 : decode cX0_cut 1 = .ok (.iload_n 1, 1) := by decide +kernel
theorem dX0_cut_2 : decode cX0_cut 2 = .ok (.putfield 13, 3) := by decide +kernel
theorem dX0_cut_5 : decode cX0_cut 5 = .ok (.return_, 1) := by decide +kernel
theorem dX0_bigEndian_0 : decode cX0_bigEndian 0 = .ok (.lconst 0, 1) := by decide +kernel
theorem dX0_bigEndian_1 : decode cX0_bigEndian 1 = .ok (.lstore_n 3, 1) := by decide +kernel
theorem dX0_bigEndian_2 : decode cX0_bigEndian 2 = .ok (.iconst 0, 1) := by decide +kernel
theorem dX0_bigEndian_3 : decode cX0_bigEndian 3 = .ok (.istore 5, 2) := by decide +kernel
theorem dX0_bigEndian_5 : decode cX0_bigEndian 5 = .ok (.iload 5, 2) := by decide +kernel
theorem dX0_bigEndian_7 : decode cX0_bigEndian 7 = .ok (.iload_n 2, 1) := by decide +kernel
theorem dX0_bigEndian_8 : decode cX0_bigEndian 8 = .ok (.if_icmp .ge 29, 3) := by decide +kernel
theorem dX0_bigEndian_11 : decode cX0_bigEndian 11 = .ok (.lload_n 3, 1) := by decide +kernel
theorem dX0_bigEndian_12 : decode cX0_bigEndian 12 = .ok (.bipush 8, 2) := by decide +kernel
theorem dX0_bigEndian_14 : decode cX0_bigEndian 14 = .ok (.lshl, 1) := by decide +kernel
theorem dX0_bigEndian_15 : decode cX0_bigEndian 15 = .ok (.aload_n 0, 1) := by decide +kernel
theorem dX0_bigEndian_16 : decode cX0_bigEndian 16 = .ok (.getfield 7, 3) := by decide +kernel
theorem dX0_bigEndian_19 : decode cX0_bigEndian 19 = .ok (.iload_n 1, 1) := by decide +kernel
theorem dX0_bigEndian_20 : decode cX0_bigEndian 20 = .ok (.iload 5, 2) := by decide +kernel
theorem dX0_bigEndian_22 : decode cX0_bigEndian 22 = .ok (.iadd, 1) := by decide +kernel
theorem dX0_bigEndian_23 : decode cX0_bigEndian 23 = .ok (.baload, 1) := by decide +kernel
theorem dX0_bigEndian_24 : decode cX0_bigEndian 24 = .ok (.sipush 255, 3) := by decide +kernel
theorem dX0_bigEndian_27 : decode cX0_bigEndian 27 = .ok (.iand, 1) := by decide +kernel
theorem dX0_bigEndian_28 : decode cX0_bigEndian 28 = .ok (.i2l, 1) := by decide +kernel
theorem dX0_bigEndian_29 : decode cX0_bigEndian 29 = .ok (.lor, 1) := by decide +kernel
theorem dX0_bigEndian_30 : decode cX0_bigEndian 30 = .ok (.lstore_n 3, 1) := by decide +kernel
theorem dX0_bigEndian_31 : decode cX0_bigEndian 31 = .ok (.iinc 5 1, 3) := by decide +kernel
theorem dX0_bigEndian_34 : decode cX0_bigEndian 34 = .ok (.goto (-29), 3) := by decide +kernel
theorem dX0_bigEndian_37 : decode cX0_bigEndian 37 = .ok (.lload_n 3, 1) := by decide +kernel
theorem dX0_bigEndian_38 : decode cX0_bigEndian 38 = .ok (.lreturn, 1) := by decide +kernel
theorem dX0_slice_0 : decode cX0_slice 0 = .ok (.iload_n 2, 1) := by decide +kernel
theorem dX0_slice_1 : decode cX0_slice 1 = .ok (.ifCond .ne 9, 3) := by decide +kernel
theorem dX0_slice_4 : decode cX0_slice 4 = .ok (.getstatic 27, 3) := by decide +kernel
theorem dX0_slice_7 : decode cX0_slice 7 = .ok (.goto 14, 3) := by decide +kernel
theorem dX0_slice_10 : decode cX0_slice 10 = .ok (.aload_n 0, 1) := by decide +kernel
theorem dX0_slice_11 : decode cX0_slice 11 = .ok (.getfield 7, 3) := by decide +kernel
theorem dX0_slice_14 : decode cX0_slice 14 = .ok (.iload_n 1, 1) := by decide +kernel
theorem dX0_slice_15 : decode cX0_slice 15 = .ok (.iload_n 1, 1) := by decide +kernel
theorem dX0_slice_16 : decode cX0_slice 16 = .ok (.iload_n 2, 1) := by decide +kernel
theorem dX0_slice_17 : decode cX0_slice 17 = .ok (.iadd, 1) := by decide +kernel
theorem dX0_slice_18 : decode cX0_slice 18 = .ok (.invokestatic 32, 3) := by decide +kernel
theorem dX0_slice_21 : decode cX0_slice 21 = .ok (.areturn, 1) := by decide +kernel
theorem dX0_hasSameBytes_0 : decode cX0_hasSameBytes 0 = .ok (.aload_n 0, 1) := by decide +kernel
theorem dX0_hasSameBytes_1 : decode cX0_hasSameBytes 1 = .ok (.getfield 13, 3) := by decide +kernel
theorem dX0_hasSameBytes_4 : decode cX0_hasSameBytes 4 = .ok (.aload_n 1, 1) := by decide +kernel
theorem dX0_hasSameBytes_5 : decode cX0_hasSameBytes 5 = .ok (.getfield 13, 3) := by decide +kernel
theorem dX0_hasSameBytes_8 : decode cX0_hasSameBytes 8 = .ok (.if_icmp .eq 5, 3) := by decide +kernel
theorem dX0_hasSameBytes_11 : decode cX0_hasSameBytes 11 = .ok (.iconst 0, 1) := by decide +kernel
theorem dX0_hasSameBytes_12 : decode cX0_hasSameBytes 12 = .ok (.ireturn, 1) := by decide +kernel
theorem dX0_hasSameBytes_13 : decode cX0_hasSameBytes 13 = .ok (.iconst 0, 1) := by decide +kernel
theorem dX0_hasSameBytes_14 : decode cX0_hasSameBytes 14 = .ok (.istore_n 2, 1) := by decide +kernel
theorem dX0_hasSameBytes_15 : decode cX0_hasSameBytes 15 = .ok (.iload_n 2, 1) := by decide +kernel
theorem dX0_hasSameBytes_16 : decode cX0_hasSameBytes 16 = .ok (.aload_n 0, 1) := by decide +kernel
theorem dX0_hasSameBytes_17 : decode cX0_hasSameBytes 17 = .ok (.getfield 13, 3) := by decide +kernel
theorem dX0_hasSameBytes_20 : decode cX0_hasSameBytes 20 = .ok (.if_icmp .ge 26, 3) := by decide +kernel
theorem dX0_hasSameBytes_23 : decode cX0_hasSameBytes 23 = .ok (.aload_n 0, 1) := by decide +kernel
theorem dX0_hasSameBytes_24 : decode cX0_hasSameBytes 24 = .ok (.getfield 7, 3) := by decide +kernel
theorem dX0_hasSameBytes_27 : decode cX0_hasSameBytes 27 = .ok (.iload_n 2, 1) := by decide +kernel
theorem dX0_hasSameBytes_28 : decode cX0_hasSameBytes 28 = .ok (.baload, 1) := by decide +kernel
theorem dX0_hasSameBytes_29 : decode cX0_hasSameBytes 29 = .ok (.aload_n 1, 1) := by decide +kernel
theorem dX0_hasSameBytes_30 : decode cX0_hasSameBytes 30 = .ok (.getfield 7, 3) := by decide +kernel
theorem dX0_hasSameBytes_33 : decode cX0_hasSameBytes 33 = .ok (.iload_n 2, 1) := by decide +kernel
theorem dX0_hasSameBytes_34 : decode cX0_hasSameBytes 34 = .ok (.baload, 1) := by decide +kernel
theorem dX0_hasSameBytes_35 : decode cX0_hasSameBytes 35 = .ok (.if_icmp .eq 5, 3) := by decide +kernel
theorem dX0_hasSameBytes_38 : decode cX0_hasSameBytes 38 = .ok (.iconst 0, 1) := by decide +kernel
theorem dX0_hasSameBytes_39 : decode cX0_hasSameBytes 39 = .ok (.ireturn, 1) := by decide +kernel
theorem dX0_hasSameBytes_40 : decode cX0_hasSameBytes 40 = .ok (.iinc 2 1, 3) := by decide +kernel
theorem dX0_hasSameBytes_43 : decode cX0_hasSameBytes 43 = .ok (.goto (-28), 3) := by decide +kernel
theorem dX0_hasSameBytes_46 : decode cX0_hasSameBytes 46 = .ok (.iconst 1, 1) := by decide +kernel
theorem dX0_hasSameBytes_47 : decode cX0_hasSameBytes 47 = .ok (.ireturn, 1) := by decide +kernel
theorem dX0_grow_0 : decode cX0_grow 0 = .ok (.aload_n 0, 1) := by decide +kernel
theorem dX0_grow_1 : decode cX0_grow 1 = .ok (.getfield 13, 3) := by decide +kernel
theorem dX0_grow_4 : decode cX0_grow 4 = .ok (.iload_n 1, 1) := by decide +kernel
theorem dX0_grow_5 : decode cX0_grow 5 = .ok (.iadd, 1) := by decide +kernel
theorem dX0_grow_6 : decode cX0_grow 6 = .ok (.aload_n 0, 1) := by decide +kernel
theorem dX0_grow_7 : decode cX0_grow 7 = .ok (.getfield 7, 3) := by decide +kernel
theorem dX0_grow_10 : decode cX0_grow 10 = .ok (.arraylength, 1) := by decide +kernel
theorem dX0_grow_11 : decode cX0_grow 11 = .ok (.if_icmp .le 30, 3) := by decide +kernel
theorem dX0_grow_14 : decode cX0_grow 14 = .ok (.aload_n 0, 1) := by decide +kernel
theorem dX0_grow_15 : decode cX0_grow 15 = .ok (.aload_n 0, 1) := by decide +kernel
theorem dX0_grow_16 : decode cX0_grow 16 = .ok (.getfield 7, 3) := by decide +kernel
theorem dX0_grow_19 : decode cX0_grow 19 = .ok (.aload_n 0, 1) := by decide +kernel
theorem dX0_grow_20 : decode cX0_grow 20 = .ok (.getfield 13, 3) := by decide +kernel
theorem dX0_grow_23 : decode cX0_grow 23 = .ok (.iload_n 1, 1) := by decide +kernel
theorem dX0_grow_24 : decode cX0_grow 24 = .ok (.iadd, 1) := by decide +kernel
theorem dX0_grow_25 : decode cX0_grow 25 = .ok (.iconst 2, 1) := by decide +kernel
theorem dX0_grow_26 : decode cX0_grow 26 = .ok (.aload_n 0, 1) := by decide +kernel
theorem dX0_grow_27 : decode cX0_grow 27 = .ok (.getfield 7, 3) := by decide +kernel
theorem dX0_grow_30 : decode cX0_grow 30 = .ok (.arraylength, 1) := by decide +kernel
theorem dX0_grow_31 : decode cX0_grow 31 = .ok (.imul, 1) := by decide +kernel
theorem dX0_grow_32 : decode cX0_grow 32 = .ok (.invokestatic 38, 3) := by decide +kernel
theorem dX0_grow_35 : decode cX0_grow 35 = .ok (.invokestatic 44, 3) := by decide +kernel
theorem dX0_grow_38 : decode cX0_grow 38 = .ok (.putfield 7, 3) := by decide +kernel
theorem dX0_grow_41 : decode cX0_grow 41 = .ok (.return_, 1) := by decide +kernel
theorem dX1_firstWrong_0 : decode cX1_firstWrong 0 = .ok (.iload_n 1, 1) := by decide +kernel
theorem dX1_firstWrong_1 : decode cX1_firstWrong 1 = .ok (.istore_n 3, 1) := by decide +kernel
theorem dX1_firstWrong_2 : decode cX1_firstWrong 2 = .ok (.iload_n 3, 1) := by decide +kernel
theorem dX1_firstWrong_3 : decode cX1_firstWrong 3 = .ok (.iload_n 2, 1) := by decide +kernel
theorem dX1_firstWrong_4 : decode cX1_firstWrong 4 = .ok (.if_icmp .ge 26, 3) := by decide +kernel
theorem dX1_firstWrong_7 : decode cX1_firstWrong 7 = .ok (.aload_n 0, 1) := by decide +kernel
theorem dX1_firstWrong_8 : decode cX1_firstWrong 8 = .ok (.iload_n 3, 1) := by decide +kernel
theorem dX1_firstWrong_9 : decode cX1_firstWrong 9 = .ok (.iload_n 2, 1) := by decide +kernel
theorem dX1_firstWrong_10 : decode cX1_firstWrong 10 = .ok (.invokestatic 9, 3) := by decide +kernel
theorem dX1_firstWrong_13 : decode cX1_firstWrong 13 = .ok (.istore 4, 2) := by decide +kernel
theorem dX1_firstWrong_15 : decode cX1_firstWrong 15 = .ok (.iload 4, 2) := by decide +kernel
theorem dX1_firstWrong_17 : decode cX1_firstWrong 17 = .ok (.ifCond .gt 5, 3) := by decide +kernel
theorem dX1_firstWrong_20 : decode cX1_firstWrong 20 = .ok (.iload_n 3, 1) := by decide +kernel
theorem dX1_firstWrong_21 : decode cX1_firstWrong 21 = .ok (.ireturn, 1) := by decide +kernel
theorem dX1_firstWrong_22 : decode cX1_firstWrong 22 = .ok (.iload_n 3, 1) := by decide +kernel
theorem dX1_firstWrong_23 : decode cX1_firstWrong 23 = .ok (.iload 4, 2) := by decide +kernel
theorem dX1_firstWrong_25 : decode cX1_firstWrong 25 = .ok (.iadd, 1) := by decide +kernel
theorem dX1_firstWrong_26 : decode cX1_firstWrong 26 = .ok (.istore_n 3, 1) := by decide +kernel
theorem dX1_firstWrong_27 : decode cX1_firstWrong 27 = .ok (.goto (-25), 3) := by decide +kernel
theorem dX1_firstWrong_30 : decode cX1_firstWrong 30 = .ok (.iconst (-1), 1) := by decide +kernel
theorem dX1_firstWrong_31 : decode cX1_firstWrong 31 = .ok (.ireturn, 1) := by decide +kernel
theorem dX1_lengthAt_0 : decode cX1_lengthAt 0 = .ok (.aload_n 0, 1) := by decide +kernel
theorem dX1_lengthAt_1 : decode cX1_lengthAt 1 = .ok (.iload_n 1, 1) := by decide +kernel
theorem dX1_lengthAt_2 : decode cX1_lengthAt 2 = .ok (.invokevirtual 15, 3) := by decide +kernel
theorem dX1_lengthAt_5 : decode cX1_lengthAt 5 = .ok (.istore_n 3, 1) := by decide +kernel
theorem dX1_lengthAt_6 : decode cX1_lengthAt 6 = .ok (.iload_n 3, 1) := by decide +kernel
theorem dX1_lengthAt_7 : decode cX1_lengthAt 7 = .ok (.invokestatic 21, 3) := by decide +kernel
theorem dX1_lengthAt_10 : decode cX1_lengthAt 10 = .ok (.istore 4, 2) := by decide +kernel
theorem dX1_lengthAt_12 : decode cX1_lengthAt 12 = .ok (.iload 4, 2) := by decide +kernel
theorem dX1_lengthAt_14 : decode cX1_lengthAt 14 = .ok (.iconst 1, 1) := by decide +kernel
theorem dX1_lengthAt_15 : decode cX1_lengthAt 15 = .ok (.if_icmp .le 11, 3) := by decide +kernel
theorem dX1_lengthAt_18 : decode cX1_lengthAt 18 = .ok (.iload 4, 2) := by decide +kernel
theorem dX1_lengthAt_20 : decode cX1_lengthAt 20 = .ok (.iload_n 2, 1) := by decide +kernel
theorem dX1_lengthAt_21 : decode cX1_lengthAt 21 = .ok (.iload_n 1, 1) := by decide +kernel
theorem dX1_lengthAt_22 : decode cX1_lengthAt 22 = .ok (.isub, 1) := by decide +kernel
theorem dX1_lengthAt_23 : decode cX1_lengthAt 23 = .ok (.if_icmp .le 15, 3) := by decide +kernel
theorem dX1_lengthAt_26 : decode cX1_lengthAt 26 = .ok (.iload 4, 2) := by decide +kernel
theorem dX1_lengthAt_28 : decode cX1_lengthAt 28 = .ok (.iconst 1, 1) := by decide +kernel
theorem dX1_lengthAt_29 : decode cX1_lengthAt 29 = .ok (.if_icmp .ne 7, 3) := by decide +kernel
theorem dX1_lengthAt_32 : decode cX1_lengthAt 32 = .ok (.iconst 1, 1) := by decide +kernel
theorem dX1_lengthAt_33 : decode cX1_lengthAt 33 = .ok (.goto 4, 3) := by decide +kernel
theorem dX1_lengthAt_36 : decode cX1_lengthAt 36 = .ok (.iconst 0, 1) := by decide +kernel
theorem dX1_lengthAt_37 : decode cX1_lengthAt 37 = .ok (.ireturn, 1) := by decide +kernel
theorem dX1_lengthAt_38 : decode cX1_lengthAt 38 = .ok (.iload_n 3, 1) := by decide +kernel
theorem dX1_lengthAt_39 : decode cX1_lengthAt 39 = .ok (.bipush 127, 2) := by decide +kernel
theorem dX1_lengthAt_41 : decode cX1_lengthAt 41 = .ok (.iload 4, 2) := by decide +kernel
theorem dX1_lengthAt_43 : decode cX1_lengthAt 43 = .ok (.ishr, 1) := by decide +kernel
theorem dX1_lengthAt_44 : decode cX1_lengthAt 44 = .ok (.iand, 1) := by decide +kernel
theorem dX1_lengthAt_45 : decode cX1_lengthAt 45 = .ok (.istore 5, 2) := by decide +kernel
theorem dX1_lengthAt_47 : decode cX1_lengthAt 47 = .ok (.iconst 1, 1) := by decide +kernel
theorem dX1_lengthAt_48 : decode cX1_lengthAt 48 = .ok (.istore 6, 2) := by decide +kernel
theorem dX1_lengthAt_50 : decode cX1_lengthAt 50 = .ok (.iload 6, 2) := by decide +kernel
theorem dX1_lengthAt_52 : decode cX1_lengthAt 52 = .ok (.iload 4, 2) := by decide +kernel
theorem dX1_lengthAt_54 : decode cX1_lengthAt 54 = .ok (.if_icmp .ge 46, 3) := by decide +kernel
theorem dX1_lengthAt_57 : decode cX1_lengthAt 57 = .ok (.aload_n 0, 1) := by decide +kernel
theorem dX1_lengthAt_58 : decode cX1_lengthAt 58 = .ok (.iload_n 1, 1) := by decide +kernel
theorem dX1_lengthAt_59 : decode cX1_lengthAt 59 = .ok (.iload 6, 2) := by decide +kernel
theorem dX1_lengthAt_61 : decode cX1_lengthAt 61 = .ok (.iadd, 1) := by decide +kernel
theorem dX1_lengthAt_62 : decode cX1_lengthAt 62 = .ok (.invokevirtual 15, 3) := by decide +kernel
theorem dX1_lengthAt_65 : decode cX1_lengthAt 65 = .ok (.istore 7, 2) := by decide +kernel
theorem dX1_lengthAt_67 : decode cX1_lengthAt 67 = .ok (.iload 7, 2) := by decide +kernel
theorem dX1_lengthAt_69 : decode cX1_lengthAt 69 = .ok (.sipush 192, 3) := by decide +kernel
theorem dX1_lengthAt_72 : decode cX1_lengthAt 72 = .ok (.iand, 1) := by decide +kernel
theorem dX1_lengthAt_73 : decode cX1_lengthAt 73 = .ok (.sipush 128, 3) := by decide +kernel
theorem dX1_lengthAt_76 : decode cX1_lengthAt 76 = .ok (.if_icmp .eq 5, 3) := by decide +kernel
theorem dX1_lengthAt_79 : decode cX1_lengthAt 79 = .ok (.iconst 0, 1) := by decide +kernel
theorem dX1_lengthAt_80 : decode cX1_lengthAt 80 = .ok (.ireturn, 1) := by decide +kernel
theorem dX1_lengthAt_81 : decode cX1_lengthAt 81 = .ok (.iload 5, 2) := by decide +kernel
theorem dX1_lengthAt_83 : decode cX1_lengthAt 83 = .ok (.bipush 6, 2) := by decide +kernel
theorem dX1_lengthAt_85 : decode cX1_lengthAt 85 = .ok (.ishl, 1) := by decide +kernel
theorem dX1_lengthAt_86 : decode cX1_lengthAt 86 = .ok (.iload 7, 2) := by decide +kernel
theorem dX1_lengthAt_88 : decode cX1_lengthAt 88 = .ok (.bipush 63, 2) := by decide +kernel
theorem dX1_lengthAt_90 : decode cX1_lengthAt 90 = .ok (.iand, 1) := by decide +kernel
theorem dX1_lengthAt_91 : decode cX1_lengthAt 91 = .ok (.ior, 1) := by decide +kernel
theorem dX1_lengthAt_92 : decode cX1_lengthAt 92 = .ok (.istore 5, 2) := by decide +kernel
theorem dX1_lengthAt_94 : decode cX1_lengthAt 94 = .ok (.iinc 6 1, 3) := by decide +kernel
theorem dX1_lengthAt_97 : decode cX1_lengthAt 97 = .ok (.goto (-47), 3) := by decide +kernel
theorem dX1_lengthAt_100 : decode cX1_lengthAt 100 = .ok (.iload 5, 2) := by decide +kernel
theorem dX1_lengthAt_102 : decode cX1_lengthAt 102 = .ok (.invokestatic 24, 3) := by decide +kernel
theorem dX1_lengthAt_105 : decode cX1_lengthAt 105 = .ok (.iload 4, 2) := by decide +kernel
theorem dX1_lengthAt_107 : decode cX1_lengthAt 107 = .ok (.if_icmp .ne 8, 3) := by decide +kernel
theorem dX1_lengthAt_110 : decode cX1_lengthAt 110 = .ok (.iload 4, 2) := by decide +kernel
theorem dX1_lengthAt_112 : decode cX1_lengthAt 112 = .ok (.goto 4, 3) := by decide +kernel
theorem dX1_lengthAt_115 : decode cX1_lengthAt 115 = .ok (.iconst 0, 1) := by decide +kernel
theorem dX1_lengthAt_116 : decode cX1_lengthAt 116 = .ok (.ireturn, 1) := by decide +kernel
theorem dX1_saidLength_0 : decode cX1_saidLength 0 = .ok (.iload_n 0, 1) := by decide +kernel
theorem dX1_saidLength_1 : decode cX1_saidLength 1 = .ok (.sipush 128, 3) := by decide +kernel
theorem dX1_saidLength_4 : decode cX1_saidLength 4 = .ok (.if_icmp .ge 5, 3) := by decide +kernel
theorem dX1_saidLength_7 : decode cX1_saidLength 7 = .ok (.iconst 1, 1) := by decide +kernel
theorem dX1_saidLength_8 : decode cX1_saidLength 8 = .ok (.ireturn, 1) := by decide +kernel
theorem dX1_saidLength_9 : decode cX1_saidLength 9 = .ok (.iload_n 0, 1) := by decide +kernel
theorem dX1_saidLength_10 : decode cX1_saidLength 10 = .ok (.sipush 192, 3) := by decide +kernel
theorem dX1_saidLength_13 : decode cX1_saidLength 13 = .ok (.if_icmp .ge 5, 3) := by decide +kernel
theorem dX1_saidLength_16 : decode cX1_saidLength 16 = .ok (.iconst 0, 1) := by decide +kernel
theorem dX1_saidLength_17 : decode cX1_saidLength 17 = .ok (.ireturn, 1) := by decide +kernel
theorem dX1_saidLength_18 : decode cX1_saidLength 18 = .ok (.iload_n 0, 1) := by decide +kernel
theorem dX1_saidLength_19 : decode cX1_saidLength 19 = .ok (.sipush 224, 3) := by decide +kernel
theorem dX1_saidLength_22 : decode cX1_saidLength 22 = .ok (.if_icmp .ge 5, 3) := by decide +kernel
theorem dX1_saidLength_25 : decode cX1_saidLength 25 = .ok (.iconst 2, 1) := by decide +kernel
theorem dX1_saidLength_26 : decode cX1_saidLength 26 = .ok (.ireturn, 1) := by decide +kernel
theorem dX1_saidLength_27 : decode cX1_saidLength 27 = .ok (.iload_n 0, 1) := by decide +kernel
theorem dX1_saidLength_28 : decode cX1_saidLength 28 = .ok (.sipush 240, 3) := by decide +kernel
theorem dX1_saidLength_31 : decode cX1_saidLength 31 = .ok (.if_icmp .ge 5, 3) := by decide +kernel
theorem dX1_saidLength_34 : decode cX1_saidLength 34 = .ok (.iconst 3, 1) := by decide +kernel
theorem dX1_saidLength_35 : decode cX1_saidLength 35 = .ok (.ireturn, 1) := by decide +kernel
theorem dX1_saidLength_36 : decode cX1_saidLength 36 = .ok (.iload_n 0, 1) := by decide +kernel
theorem dX1_saidLength_37 : decode cX1_saidLength 37 = .ok (.sipush 248, 3) := by decide +kernel
theorem dX1_saidLength_40 : decode cX1_saidLength 40 = .ok (.if_icmp .ge 7, 3) := by decide +kernel
theorem dX1_saidLength_43 : decode cX1_saidLength 43 = .ok (.iconst 4, 1) := by decide +kernel
theorem dX1_saidLength_44 : decode cX1_saidLength 44 = .ok (.goto 4, 3) := by decide +kernel
theorem dX1_saidLength_47 : decode cX1_saidLength 47 = .ok (.iconst 0, 1) := by decide +kernel
theorem dX1_saidLength_48 : decode cX1_saidLength 48 = .ok (.ireturn, 1) := by decide +kernel
theorem dX1_shortestLength_0 : decode cX1_shortestLength 0 = .ok (.iload_n 0, 1) := by decide +kernel
theorem dX1_shortestLength_1 : decode cX1_shortestLength 1 = .ok (.ldc 27, 2) := by decide +kernel
theorem dX1_shortestLength_3 : decode cX1_shortestLength 3 = .ok (.if_icmp .gt 15, 3) := by decide +kernel
theorem dX1_shortestLength_6 : decode cX1_shortestLength 6 = .ok (.iload_n 0, 1) := by decide +kernel
theorem dX1_shortestLength_7 : decode cX1_shortestLength 7 = .ok (.ldc 28, 2) := by decide +kernel
theorem dX1_shortestLength_9 : decode cX1_shortestLength 9 = .ok (.if_icmp .lt 11, 3) := by decide +kernel
theorem dX1_shortestLength_12 : decode cX1_shortestLength 12 = .ok (.iload_n 0, 1) := by decide +kernel
theorem dX1_shortestLength_13 : decode cX1_shortestLength 13 = .ok (.ldc 29, 2) := by decide +kernel
theorem dX1_shortestLength_15 : decode cX1_shortestLength 15 = .ok (.if_icmp .gt 5, 3) := by decide +kernel
theorem dX1_shortestLength_18 : decode cX1_shortestLength 18 = .ok (.iconst 0, 1) := by decide +kernel
theorem dX1_shortestLength_19 : decode cX1_shortestLength 19 = .ok (.ireturn, 1) := by decide +kernel
theorem dX1_shortestLength_20 : decode cX1_shortestLength 20 = .ok (.iload_n 0, 1) := by decide +kernel
theorem dX1_shortestLength_21 : decode cX1_shortestLength 21 = .ok (.sipush 128, 3) := by decide +kernel
theorem dX1_shortestLength_24 : decode cX1_shortestLength 24 = .ok (.if_icmp .ge 5, 3) := by decide +kernel
theorem dX1_shortestLength_27 : decode cX1_shortestLength 27 = .ok (.iconst 1, 1) := by decide +kernel
theorem dX1_shortestLength_28 : decode cX1_shortestLength 28 = .ok (.ireturn, 1) := by decide +kernel
theorem dX1_shortestLength_29 : decode cX1_shortestLength 29 = .ok (.iload_n 0, 1) := by decide +kernel
theorem dX1_shortestLength_30 : decode cX1_shortestLength 30 = .ok (.sipush 2048, 3) := by decide +kernel
theorem dX1_shortestLength_33 : decode cX1_shortestLength 33 = .ok (.if_icmp .ge 5, 3) := by decide +kernel
theorem dX1_shortestLength_36 : decode cX1_shortestLength 36 = .ok (.iconst 2, 1) := by decide +kernel
theorem dX1_shortestLength_37 : decode cX1_shortestLength 37 = .ok (.ireturn, 1) := by decide +kernel
theorem dX1_shortestLength_38 : decode cX1_shortestLength 38 = .ok (.iload_n 0, 1) := by decide +kernel
theorem dX1_shortestLength_39 : decode cX1_shortestLength 39 = .ok (.ldc 30, 2) := by decide +kernel
theorem dX1_shortestLength_41 : decode cX1_shortestLength 41 = .ok (.if_icmp .ge 7, 3) := by decide +kernel
theorem dX1_shortestLength_44 : decode cX1_shortestLength 44 = .ok (.iconst 3, 1) := by decide +kernel
theorem dX1_shortestLength_45 : decode cX1_shortestLength 45 = .ok (.goto 4, 3) := by decide +kernel
theorem dX1_shortestLength_48 : decode cX1_shortestLength 48 = .ok (.iconst 4, 1) := by decide +kernel
theorem dX1_shortestLength_49 : decode cX1_shortestLength 49 = .ok (.ireturn, 1) := by decide +kernel
theorem dX2_init_0 : decode cX2_init 0 = .ok (.aload_n 0, 1) := by decide +kernel
theorem dX2_init_1 : decode cX2_init 1 = .ok (.invokespecial 3, 3) := by decide +kernel
theorem dX2_init_4 : decode cX2_init 4 = .ok (.return_, 1) := by decide +kernel
theorem dX2_look_0 : decode cX2_look 0 = .ok (.aload_n 1, 1) := by decide +kernel
theorem dX2_look_1 : decode cX2_look 1 = .ok (.iload_n 2, 1) := by decide +kernel
theorem dX2_look_2 : decode cX2_look 2 = .ok (.invokevirtual 9, 3) := by decide +kernel
theorem dX2_look_5 : decode cX2_look 5 = .ok (.istore_n 3, 1) := by decide +kernel
theorem dX2_look_6 : decode cX2_look 6 = .ok (.aload_n 0, 1) := by decide +kernel
theorem dX2_look_7 : decode cX2_look 7 = .ok (.iconst 0, 1) := by decide +kernel
theorem dX2_look_8 : decode cX2_look 8 = .ok (.putfield 15, 3) := by decide +kernel
theorem dX2_look_11 : decode cX2_look 11 = .ok (.iload_n 3, 1) := by decide +kernel
theorem dX2_look_12 : decode cX2_look 12 = .ok (.sipush 128, 3) := by decide +kernel
theorem dX2_look_15 : decode cX2_look 15 = .ok (.if_icmp .lt 10, 3) := by decide +kernel
theorem dX2_look_18 : decode cX2_look 18 = .ok (.iload_n 3, 1) := by decide +kernel
theorem dX2_look_19 : decode cX2_look 19 = .ok (.sipush 224, 3) := by decide +kernel
theorem dX2_look_22 : decode cX2_look 22 = .ok (.if_icmp .lt 13, 3) := by decide +kernel
theorem dX2_look_25 : decode cX2_look 25 = .ok (.aload_n 0, 1) := by decide +kernel
theorem dX2_look_26 : decode cX2_look 26 = .ok (.iconst 2, 1) := by decide +kernel
theorem dX2_look_27 : decode cX2_look 27 = .ok (.iconst 1, 1) := by decide +kernel
theorem dX2_look_28 : decode cX2_look 28 = .ok (.lconst 0, 1) := by decide +kernel
theorem dX2_look_29 : decode cX2_look 29 = .ok (.invokevirtual 21, 3) := by decide +kernel
theorem dX2_look_32 : decode cX2_look 32 = .ok (.goto 81, 3) := by decide +kernel
theorem dX2_look_35 : decode cX2_look 35 = .ok (.iload_n 3, 1) := by decide +kernel
theorem dX2_look_36 : decode cX2_look 36 = .ok (.sipush 144, 3) := by decide +kernel
theorem dX2_look_39 : decode cX2_look 39 = .ok (.if_icmp .ge 20, 3) := by decide +kernel
theorem dX2_look_42 : decode cX2_look 42 = .ok (.aload_n 0, 1) := by decide +kernel
theorem dX2_look_43 : decode cX2_look 43 = .ok (.bipush 8, 2) := by decide +kernel
theorem dX2_look_45 : decode cX2_look 45 = .ok (.iconst 1, 1) := by decide +kernel
theorem dX2_look_46 : decode cX2_look 46 = .ok (.iconst 2, 1) := by decide +kernel
theorem dX2_look_47 : decode cX2_look 47 = .ok (.iload_n 3, 1) := by decide +kernel
theorem dX2_look_48 : decode cX2_look 48 = .ok (.bipush 15, 2) := by decide +kernel
theorem dX2_look_50 : decode cX2_look 50 = .ok (.iand, 1) := by decide +kernel
theorem dX2_look_51 : decode cX2_look 51 = .ok (.imul, 1) := by decide +kernel
theorem dX2_look_52 : decode cX2_look 52 = .ok (.i2l, 1) := by decide +kernel
theorem dX2_look_53 : decode cX2_look 53 = .ok (.invokevirtual 21, 3) := by decide +kernel
theorem dX2_look_56 : decode cX2_look 56 = .ok (.goto 57, 3) := by decide +kernel
theorem dX2_look_59 : decode cX2_look 59 = .ok (.iload_n 3, 1) := by decide +kernel
theorem dX2_look_60 : decode cX2_look 60 = .ok (.sipush 160, 3) := by decide +kernel
theorem dX2_look_63 : decode cX2_look 63 = .ok (.if_icmp .ge 18, 3) := by decide +kernel
theorem dX2_look_66 : decode cX2_look 66 = .ok (.aload_n 0, 1) := by decide +kernel
theorem dX2_look_67 : decode cX2_look 67 = .ok (.bipush 7, 2) := by decide +kernel
theorem dX2_look_69 : decode cX2_look 69 = .ok (.iconst 1, 1) := by decide +kernel
theorem dX2_look_70 : decode cX2_look 70 = .ok (.iload_n 3, 1) := by decide +kernel
theorem dX2_look_71 : decode cX2_look 71 = .ok (.bipush 15, 2) := by decide +kernel
theorem dX2_look_73 : decode cX2_look 73 = .ok (.iand, 1) := by decide +kernel
theorem dX2_look_74 : decode cX2_look 74 = .ok (.i2l, 1) := by decide +kernel
theorem dX2_look_75 : decode cX2_look 75 = .ok (.invokevirtual 21, 3) := by decide +kernel
theorem dX2_look_78 : decode cX2_look 78 = .ok (.goto 35, 3) := by decide +kernel
theorem dX2_look_81 : decode cX2_look 81 = .ok (.iload_n 3, 1) := by decide +kernel
theorem dX2_look_82 : decode cX2_look 82 = .ok (.sipush 192, 3) := by decide +kernel
theorem dX2_look_85 : decode cX2_look 85 = .ok (.if_icmp .ge 17, 3) := by decide +kernel
theorem dX2_look_88 : decode cX2_look 88 = .ok (.aload_n 0, 1) := by decide +kernel
theorem dX2_look_89 : decode cX2_look 89 = .ok (.iconst 5, 1) := by decide +kernel
theorem dX2_look_90 : decode cX2_look 90 = .ok (.iconst 1, 1) := by decide +kernel
theorem dX2_look_91 : decode cX2_look 91 = .ok (.iload_n 3, 1) := by decide +kernel
theorem dX2_look_92 : decode cX2_look 92 = .ok (.bipush 31, 2) := by decide +kernel
theorem dX2_look_94 : decode cX2_look 94 = .ok (.iand, 1) := by decide +kernel
theorem dX2_look_95 : decode cX2_look 95 = .ok (.i2l, 1) := by decide +kernel
theorem dX2_look_96 : decode cX2_look 96 = .ok (.invokevirtual 21, 3) := by decide +kernel
theorem dX2_look_99 : decode cX2_look 99 = .ok (.goto 14, 3) := by decide +kernel
theorem dX2_look_102 : decode cX2_look 102 = .ok (.aload_n 0, 1) := by decide +kernel
theorem dX2_look_103 : decode cX2_look 103 = .ok (.aload_n 1, 1) := by decide +kernel
theorem dX2_look_104 : decode cX2_look 104 = .ok (.iload_n 2, 1) := by decide +kernel
theorem dX2_look_105 : decode cX2_look 105 = .ok (.iload_n 3, 1) := by decide +kernel
theorem dX2_look_106 : decode cX2_look 106 = .ok (.sipush 192, 3) := by decide +kernel
theorem dX2_look_109 : decode cX2_look 109 = .ok (.isub, 1) := by decide +kernel
theorem dX2_look_110 : decode cX2_look 110 = .ok (.invokevirtual 25, 3) := by decide +kernel
theorem dX2_look_113 : decode cX2_look 113 = .ok (.aload_n 0, 1) := by decide +kernel
theorem dX2_look_114 : decode cX2_look 114 = .ok (.getfield 29, 3) := by decide +kernel
theorem dX2_look_117 : decode cX2_look 117 = .ok (.bipush 9, 2) := by decide +kernel
theorem dX2_look_119 : decode cX2_look 119 = .ok (.if_icmp .ne 14, 3) := by decide +kernel
theorem dX2_look_122 : decode cX2_look 122 = .ok (.aload_n 0, 1) := by decide +kernel
theorem dX2_look_123 : decode cX2_look 123 = .ok (.aload_n 1, 1) := by decide +kernel
theorem dX2_look_124 : decode cX2_look 124 = .ok (.iload_n 2, 1) := by decide +kernel
theorem dX2_look_125 : decode cX2_look 125 = .ok (.aload_n 0, 1) := by decide +kernel
theorem dX2_look_126 : decode cX2_look 126 = .ok (.getfield 32, 3) := by decide +kernel
theorem dX2_look_129 : decode cX2_look 129 = .ok (.iadd, 1) := by decide +kernel
theorem dX2_look_130 : decode cX2_look 130 = .ok (.invokevirtual 35, 3) := by decide +kernel
theorem dX2_look_133 : decode cX2_look 133 = .ok (.return_, 1) := by decide +kernel
theorem dX2_isGroup_0 : decode cX2_isGroup 0 = .ok (.aload_n 0, 1) := by decide +kernel
theorem dX2_isGroup_1 : decode cX2_isGroup 1 = .ok (.getfield 29, 3) := by decide +kernel
theorem dX2_isGroup_4 : decode cX2_isGroup 4 = .ok (.bipush 7, 2) := by decide +kernel
theorem dX2_isGroup_6 : decode cX2_isGroup 6 = .ok (.if_icmp .eq 12, 3) := by decide +kernel
theorem dX2_isGroup_9 : decode cX2_isGroup 9 = .ok (.aload_n 0, 1) := by decide +kernel
theorem dX2_isGroup_10 : decode cX2_isGroup 10 = .ok (.getfield 29, 3) := by decide +kernel
theorem dX2_isGroup_13 : decode cX2_isGroup 13 = .ok (.bipush 8, 2) := by decide +kernel
theorem dX2_isGroup_15 : decode cX2_isGroup 15 = .ok (.if_icmp .ne 7, 3) := by decide +kernel
theorem dX2_isGroup_18 : decode cX2_isGroup 18 = .ok (.iconst 1, 1) := by decide +kernel
theorem dX2_isGroup_19 : decode cX2_isGroup 19 = .ok (.goto 4, 3) := by decide +kernel
theorem dX2_isGroup_22 : decode cX2_isGroup 22 = .ok (.iconst 0, 1) := by decide +kernel
theorem dX2_isGroup_23 : decode cX2_isGroup 23 = .ok (.ireturn, 1) := by decide +kernel
theorem dX2_ownBytes_0 : decode cX2_ownBytes 0 = .ok (.aload_n 0, 1) := by decide +kernel
theorem dX2_ownBytes_1 : decode cX2_ownBytes 1 = .ok (.invokevirtual 39, 3) := by decide +kernel
theorem dX2_ownBytes_4 : decode cX2_ownBytes 4 = .ok (.ifCond .eq 11, 3) := by decide +kernel
theorem dX2_ownBytes_7 : decode cX2_ownBytes 7 = .ok (.aload_n 0, 1) := by decide +kernel
theorem dX2_ownBytes_8 : decode cX2_ownBytes 8 = .ok (.getfield 32, 3) := by decide +kernel
theorem dX2_ownBytes_11 : decode cX2_ownBytes 11 = .ok (.i2l, 1) := by decide +kernel
theorem dX2_ownBytes_12 : decode cX2_ownBytes 12 = .ok (.goto 13, 3) := by decide +kernel
theorem dX2_ownBytes_15 : decode cX2_ownBytes 15 = .ok (.aload_n 0, 1) := by decide +kernel
theorem dX2_ownBytes_16 : decode cX2_ownBytes 16 = .ok (.getfield 32, 3) := by decide +kernel
theorem dX2_ownBytes_19 : decode cX2_ownBytes 19 = .ok (.i2l, 1) := by decide +kernel
theorem dX2_ownBytes_20 : decode cX2_ownBytes 20 = .ok (.aload_n 0, 1) := by decide +kernel
theorem dX2_ownBytes_21 : decode cX2_ownBytes 21 = .ok (.getfield 43, 3) := by decide +kernel
theorem dX2_ownBytes_24 : decode cX2_ownBytes 24 = .ok (.ladd, 1) := by decide +kernel
theorem dX2_ownBytes_25 : decode cX2_ownBytes 25 = .ok (.lreturn, 1) := by decide +kernel
theorem dX2_lookUp_0 : decode cX2_lookUp 0 = .ok (.getstatic 47, 3) := by decide +kernel
theorem dX2_lookUp_3 : decode cX2_lookUp 3 = .ok (.iload_n 3, 1) := by decide +kernel
theorem dX2_lookUp_4 : decode cX2_lookUp 4 = .ok (.iaload, 1) := by decide +kernel
theorem dX2_lookUp_5 : decode cX2_lookUp 5 = .ok (.istore 4, 2) := by decide +kernel
theorem dX2_lookUp_7 : decode cX2_lookUp 7 = .ok (.getstatic 51, 3) := by decide +kernel
theorem dX2_lookUp_10 : decode cX2_lookUp 10 = .ok (.iload_n 3, 1) := by decide +kernel
theorem dX2_lookUp_11 : decode cX2_lookUp 11 = .ok (.iaload, 1) := by decide +kernel
theorem dX2_lookUp_12 : decode cX2_lookUp 12 = .ok (.i2l, 1) := by decide +kernel
theorem dX2_lookUp_13 : decode cX2_lookUp 13 = .ok (.lstore 5, 2) := by decide +kernel
theorem dX2_lookUp_15 : decode cX2_lookUp 15 = .ok (.iload 4, 2) := by decide +kernel
theorem dX2_lookUp_17 : decode cX2_lookUp 17 = .ok (.ifCond .le 25, 3) := by decide +kernel
theorem dX2_lookUp_20 : decode cX2_lookUp 20 = .ok (.iload 4, 2) := by decide +kernel
theorem dX2_lookUp_22 : decode cX2_lookUp 22 = .ok (.aload_n 1, 1) := by decide +kernel
theorem dX2_lookUp_23 : decode cX2_lookUp 23 = .ok (.invokevirtual 54, 3) := by decide +kernel
theorem dX2_lookUp_26 : decode cX2_lookUp 26 = .ok (.iload_n 2, 1) := by decide +kernel
theorem dX2_lookUp_27 : decode cX2_lookUp 27 = .ok (.isub, 1) := by decide +kernel
theorem dX2_lookUp_28 : decode cX2_lookUp 28 = .ok (.if_icmp .ge 14, 3) := by decide +kernel
theorem dX2_lookUp_31 : decode cX2_lookUp 31 = .ok (.aload_n 1, 1) := by decide +kernel
theorem dX2_lookUp_32 : decode cX2_lookUp 32 = .ok (.iload_n 2, 1) := by decide +kernel
theorem dX2_lookUp_33 : decode cX2_lookUp 33 = .ok (.iconst 1, 1) := by decide +kernel
theorem dX2_lookUp_34 : decode cX2_lookUp 34 = .ok (.iadd, 1) := by decide +kernel
theorem dX2_lookUp_35 : decode cX2_lookUp 35 = .ok (.iload 4, 2) := by decide +kernel
theorem dX2_lookUp_37 : decode cX2_lookUp 37 = .ok (.invokevirtual 58, 3) := by decide +kernel
theorem dX2_lookUp_40 : decode cX2_lookUp 40 = .ok (.lstore 5, 2) := by decide +kernel
theorem dX2_lookUp_42 : decode cX2_lookUp 42 = .ok (.aload_n 0, 1) := by decide +kernel
theorem dX2_lookUp_43 : decode cX2_lookUp 43 = .ok (.getstatic 62, 3) := by decide +kernel
theorem dX2_lookUp_46 : decode cX2_lookUp 46 = .ok (.iload_n 3, 1) := by decide +kernel
theorem dX2_lookUp_47 : decode cX2_lookUp 47 = .ok (.iaload, 1) := by decide +kernel
theorem dX2_lookUp_48 : decode cX2_lookUp 48 = .ok (.iconst 1, 1) := by decide +kernel
theorem dX2_lookUp_49 : decode cX2_lookUp 49 = .ok (.iload 4, 2) := by decide +kernel
theorem dX2_lookUp_51 : decode cX2_lookUp 51 = .ok (.iadd, 1) := by decide +kernel
theorem dX2_lookUp_52 : decode cX2_lookUp 52 = .ok (.getstatic 62, 3) := by decide +kernel
theorem dX2_lookUp_55 : decode cX2_lookUp 55 = .ok (.iload_n 3, 1) := by decide +kernel
theorem dX2_lookUp_56 : decode cX2_lookUp 56 = .ok (.iaload, 1) := by decide +kernel
theorem dX2_lookUp_57 : decode cX2_lookUp 57 = .ok (.bipush 8, 2) := by decide +kernel
theorem dX2_lookUp_59 : decode cX2_lookUp 59 = .ok (.if_icmp .ne 12, 3) := by decide +kernel
theorem dX2_lookUp_62 : decode cX2_lookUp 62 = .ok (.ldc2_w 65, 3) := by decide +kernel
theorem dX2_lookUp_65 : decode cX2_lookUp 65 = .ok (.lload 5, 2) := by decide +kernel
theorem dX2_lookUp_67 : decode cX2_lookUp 67 = .ok (.lmul, 1) := by decide +kernel
theorem dX2_lookUp_68 : decode cX2_lookUp 68 = .ok (.goto 5, 3) := by decide +kernel
theorem dX2_lookUp_71 : decode cX2_lookUp 71 = .ok (.lload 5, 2) := by decide +kernel
theorem dX2_lookUp_73 : decode cX2_lookUp 73 = .ok (.invokevirtual 21, 3) := by decide +kernel
theorem dX2_lookUp_76 : decode cX2_lookUp 76 = .ok (.return_, 1) := by decide +kernel
theorem dX2_lookAtType_0 : decode cX2_lookAtType 0 = .ok (.aload_n 0, 1) := by decide +kernel
theorem dX2_lookAtType_1 : decode cX2_lookAtType 1 = .ok (.dup, 1) := by decide +kernel
theorem dX2_lookAtType_2 : decode cX2_lookAtType 2 = .ok (.getfield 32, 3) := by decide +kernel
theorem dX2_lookAtType_5 : decode cX2_lookAtType 5 = .ok (.iconst 1, 1) := by decide +kernel
theorem dX2_lookAtType_6 : decode cX2_lookAtType 6 = .ok (.iadd, 1) := by decide +kernel
theorem dX2_lookAtType_7 : decode cX2_lookAtType 7 = .ok (.putfield 32, 3) := by decide +kernel
theorem dX2_lookAtType_10 : decode cX2_lookAtType 10 = .ok (.iload_n 2, 1) := by decide +kernel
theorem dX2_lookAtType_11 : decode cX2_lookAtType 11 = .ok (.aload_n 1, 1) := by decide +kernel
theorem dX2_lookAtType_12 : decode cX2_lookAtType 12 = .ok (.invokevirtual 54, 3) := by decide +kernel
theorem dX2_lookAtType_15 : decode cX2_lookAtType 15 = .ok (.if_icmp .ge 44, 3) := by decide +kernel
theorem dX2_lookAtType_18 : decode cX2_lookAtType 18 = .ok (.aload_n 0, 1) := by decide +kernel
theorem dX2_lookAtType_19 : decode cX2_lookAtType 19 = .ok (.aload_n 1, 1) := by decide +kernel
theorem dX2_lookAtType_20 : decode cX2_lookAtType 20 = .ok (.iload_n 2, 1) := by decide +kernel
theorem dX2_lookAtType_21 : decode cX2_lookAtType 21 = .ok (.invokevirtual 9, 3) := by decide +kernel
theorem dX2_lookAtType_24 : decode cX2_lookAtType 24 = .ok (.i2b, 1) := by decide +kernel
theorem dX2_lookAtType_25 : decode cX2_lookAtType 25 = .ok (.putfield 15, 3) := by decide +kernel
theorem dX2_lookAtType_28 : decode cX2_lookAtType 28 = .ok (.aload_n 0, 1) := by decide +kernel
theorem dX2_lookAtType_29 : decode cX2_lookAtType 29 = .ok (.aload_n 0, 1) := by decide +kernel
theorem dX2_lookAtType_30 : decode cX2_lookAtType 30 = .ok (.getfield 15, 3) := by decide +kernel
theorem dX2_lookAtType_33 : decode cX2_lookAtType 33 = .ok (.iconst (-1), 1) := by decide +kernel
theorem dX2_lookAtType_34 : decode cX2_lookAtType 34 = .ok (.if_icmp .ne 8, 3) := by decide +kernel
theorem dX2_lookAtType_37 : decode cX2_lookAtType 37 = .ok (.bipush 10, 2) := by decide +kernel
theorem dX2_lookAtType_39 : decode cX2_lookAtType 39 = .ok (.goto 17, 3) := by decide +kernel
theorem dX2_lookAtType_42 : decode cX2_lookAtType 42 = .ok (.aload_n 0, 1) := by decide +kernel
theorem dX2_lookAtType_43 : decode cX2_lookAtType 43 = .ok (.getfield 15, 3) := by decide +kernel
theorem dX2_lookAtType_46 : decode cX2_lookAtType 46 = .ok (.ifCond .ne 8, 3) := by decide +kernel
theorem dX2_lookAtType_49 : decode cX2_lookAtType 49 = .ok (.bipush 11, 2) := by decide +kernel
theorem dX2_lookAtType_51 : decode cX2_lookAtType 51 = .ok (.goto 5, 3) := by decide +kernel
theorem dX2_lookAtType_54 : decode cX2_lookAtType 54 = .ok (.bipush 9, 2) := by decide +kernel
theorem dX2_lookAtType_56 : decode cX2_lookAtType 56 = .ok (.putfield 29, 3) := by decide +kernel
theorem dX2_lookAtType_59 : decode cX2_lookAtType 59 = .ok (.return_, 1) := by decide +kernel
theorem dX2_take_0 : decode cX2_take 0 = .ok (.aload_n 0, 1) := by decide +kernel
theorem dX2_take_1 : decode cX2_take 1 = .ok (.iload_n 1, 1) := by decide +kernel
theorem dX2_take_2 : decode cX2_take 2 = .ok (.putfield 29, 3) := by decide +kernel
theorem dX2_take_5 : decode cX2_take 5 = .ok (.aload_n 0, 1) := by decide +kernel
theorem dX2_take_6 : decode cX2_take 6 = .ok (.iload_n 2, 1) := by decide +kernel
theorem dX2_take_7 : decode cX2_take 7 = .ok (.putfield 32, 3) := by decide +kernel
theorem dX2_take_10 : decode cX2_take 10 = .ok (.aload_n 0, 1) := by decide +kernel
theorem dX2_take_11 : decode cX2_take 11 = .ok (.lload_n 3, 1) := by decide +kernel
theorem dX2_take_12 : decode cX2_take 12 = .ok (.putfield 43, 3) := by decide +kernel
theorem dX2_take_15 : decode cX2_take 15 = .ok (.return_, 1) := by decide +kernel
theorem dX3_init_0 : decode cX3_init 0 = .ok (.aload_n 0, 1) := by decide +kernel
theorem dX3_init_1 : decode cX3_init 1 = .ok (.invokespecial 3, 3) := by decide +kernel
theorem dX3_init_4 : decode cX3_init 4 = .ok (.aload_n 0, 1) := by decide +kernel
theorem dX3_init_5 : decode cX3_init 5 = .ok (.new 9, 3) := by decide +kernel
theorem dX3_init_8 : decode cX3_init 8 = .ok (.dup, 1) := by decide +kernel
theorem dX3_init_9 : decode cX3_init 9 = .ok (.invokespecial 11, 3) := by decide +kernel
theorem dX3_init_12 : decode cX3_init 12 = .ok (.putfield 12, 3) := by decide +kernel
theorem dX3_init_15 : decode cX3_init 15 = .ok (.aload_n 0, 1) := by decide +kernel
theorem dX3_init_16 : decode cX3_init 16 = .ok (.new 18, 3) := by decide +kernel
theorem dX3_init_19 : decode cX3_init 19 = .ok (.dup, 1) := by decide +kernel
theorem dX3_init_20 : decode cX3_init 20 = .ok (.invokespecial 20, 3) := by decide +kernel
theorem dX3_init_23 : decode cX3_init 23 = .ok (.putfield 21, 3) := by decide +kernel
theorem dX3_init_26 : decode cX3_init 26 = .ok (.return_, 1) := by decide +kernel
theorem dX3_write_0 : decode cX3_write 0 = .ok (.aload_n 0, 1) := by decide +kernel
theorem dX3_write_1 : decode cX3_write 1 = .ok (.getfield 12, 3) := by decide +kernel
theorem dX3_write_4 : decode cX3_write 4 = .ok (.iconst 0, 1) := by decide +kernel
theorem dX3_write_5 : decode cX3_write 5 = .ok (.invokevirtual 25, 3) := by decide +kernel
theorem dX3_write_8 : decode cX3_write 8 = .ok (.aload_n 0, 1) := by decide +kernel
theorem dX3_write_9 : decode cX3_write 9 = .ok (.iload_n 3, 1) := by decide +kernel
theorem dX3_write_10 : decode cX3_write 10 = .ok (.putfield 29, 3) := by decide +kernel
theorem dX3_write_13 : decode cX3_write 13 = .ok (.aload_n 0, 1) := by decide +kernel
theorem dX3_write_14 : decode cX3_write 14 = .ok (.iconst 0, 1) := by decide +kernel
theorem dX3_write_15 : decode cX3_write 15 = .ok (.putfield 33, 3) := by decide +kernel
theorem dX3_write_18 : decode cX3_write 18 = .ok (.aload_n 0, 1) := by decide +kernel
theorem dX3_write_19 : decode cX3_write 19 = .ok (.aload_n 1, 1) := by decide +kernel
theorem dX3_write_20 : decode cX3_write 20 = .ok (.aload_n 1, 1) := by decide +kernel
theorem dX3_write_21 : decode cX3_write 21 = .ok (.iload_n 2, 1) := by decide +kernel
theorem dX3_write_22 : decode cX3_write 22 = .ok (.invokevirtual 37, 3) := by decide +kernel
theorem dX3_write_25 : decode cX3_write 25 = .ok (.iconst 0, 1) := by decide +kernel
theorem dX3_write_26 : decode cX3_write 26 = .ok (.invokevirtual 43, 3) := by decide +kernel
theorem dX3_write_29 : decode cX3_write 29 = .ok (.aload_n 0, 1) := by decide +kernel
theorem dX3_write_30 : decode cX3_write 30 = .ok (.getfield 33, 3) := by decide +kernel
theorem dX3_write_33 : decode cX3_write 33 = .ok (.ifCond .eq 11, 3) := by decide +kernel
theorem dX3_write_36 : decode cX3_write 36 = .ok (.aload_n 0, 1) := by decide +kernel
theorem dX3_write_37 : decode cX3_write 37 = .ok (.getfield 12, 3) := by decide +kernel
theorem dX3_write_40 : decode cX3_write 40 = .ok (.iconst 0, 1) := by decide +kernel
theorem dX3_write_41 : decode cX3_write 41 = .ok (.invokevirtual 25, 3) := by decide +kernel
theorem dX3_write_44 : decode cX3_write 44 = .ok (.iconst 0, 1) := by decide +kernel
theorem dX3_write_45 : decode cX3_write 45 = .ok (.istore 4, 2) := by decide +kernel
theorem dX3_write_47 : decode cX3_write 47 = .ok (.iload 4, 2) := by decide +kernel
theorem dX3_write_49 : decode cX3_write 49 = .ok (.aload_n 0, 1) := by decide +kernel
theorem dX3_write_50 : decode cX3_write 50 = .ok (.getfield 21, 3) := by decide +kernel
theorem dX3_write_53 : decode cX3_write 53 = .ok (.invokevirtual 47, 3) := by decide +kernel
theorem dX3_write_56 : decode cX3_write 56 = .ok (.if_icmp .ge 25, 3) := by decide +kernel
theorem dX3_write_59 : decode cX3_write 59 = .ok (.aload_n 0, 1) := by decide +kernel
theorem dX3_write_60 : decode cX3_write 60 = .ok (.getfield 21, 3) := by decide +kernel
theorem dX3_write_63 : decode cX3_write 63 = .ok (.iload 4, 2) := by decide +kernel
theorem dX3_write_65 : decode cX3_write 65 = .ok (.invokevirtual 51, 3) := by decide +kernel
theorem dX3_write_68 : decode cX3_write 68 = .ok (.checkcast 55, 3) := by decide +kernel
theorem dX3_write_71 : decode cX3_write 71 = .ok (.iconst (-1), 1) := by decide +kernel
theorem dX3_write_72 : decode cX3_write 72 = .ok (.putfield 57, 3) := by decide +kernel
theorem dX3_write_75 : decode cX3_write 75 = .ok (.iinc 4 1, 3) := by decide +kernel
theorem dX3_write_78 : decode cX3_write 78 = .ok (.goto (-31), 3) := by decide +kernel
theorem dX3_write_81 : decode cX3_write 81 = .ok (.aload_n 0, 1) := by decide +kernel
theorem dX3_write_82 : decode cX3_write 82 = .ok (.getfield 21, 3) := by decide +kernel
theorem dX3_write_85 : decode cX3_write 85 = .ok (.invokevirtual 60, 3) := by decide +kernel
theorem dX3_write_88 : decode cX3_write 88 = .ok (.aload_n 0, 1) := by decide +kernel
theorem dX3_write_89 : decode cX3_write 89 = .ok (.getfield 33, 3) := by decide +kernel
theorem dX3_write_92 : decode cX3_write 92 = .ok (.ifCond .ne 7, 3) := by decide +kernel
theorem dX3_write_95 : decode cX3_write 95 = .ok (.iconst 1, 1) := by decide +kernel
theorem dX3_write_96 : decode cX3_write 96 = .ok (.goto 4, 3) := by decide +kernel
theorem dX3_write_99 : decode cX3_write 99 = .ok (.iconst 0, 1) := by decide +kernel
theorem dX3_write_100 : decode cX3_write 100 = .ok (.ireturn, 1) := by decide +kernel
theorem dX3_writeValue_0 : decode cX3_writeValue 0 = .ok (.aload_n 2, 1) := by decide +kernel
theorem dX3_writeValue_1 : decode cX3_writeValue 1 = .ok (.getfield 57, 3) := by decide +kernel
theorem dX3_writeValue_4 : decode cX3_writeValue 4 = .ok (.iconst (-1), 1) := by decide +kernel
theorem dX3_writeValue_5 : decode cX3_writeValue 5 = .ok (.if_icmp .eq 12, 3) := by decide +kernel
theorem dX3_writeValue_8 : decode cX3_writeValue 8 = .ok (.aload_n 0, 1) := by decide +kernel
theorem dX3_writeValue_9 : decode cX3_writeValue 9 = .ok (.aload_n 2, 1) := by decide +kernel
theorem dX3_writeValue_10 : decode cX3_writeValue 10 = .ok (.getfield 57, 3) := by decide +kernel
theorem dX3_writeValue_13 : decode cX3_writeValue 13 = .ok (.invokevirtual 63, 3) := by decide +kernel
theorem dX3_writeValue_16 : decode cX3_writeValue 16 = .ok (.return_, 1) := by decide +kernel
theorem dX3_writeValue_17 : decode cX3_writeValue 17 = .ok (.aload_n 2, 1) := by decide +kernel
theorem dX3_writeValue_18 : decode cX3_writeValue 18 = .ok (.getfield 66, 3) := by decide +kernel
theorem dX3_writeValue_21 : decode cX3_writeValue 21 = .ok (.tableswitch 211 0 10 #[59, 70, 87, 102, 122, 211, 211, 158, 158, 211, 143], 59) := by decide +kernel
theorem dX3_writeValue_80 : decode cX3_writeValue 80 = .ok (.aload_n 0, 1) := by decide +kernel
theorem dX3_writeValue_81 : decode cX3_writeValue 81 = .ok (.ldc2_w 69, 3) := by decide +kernel
theorem dX3_writeValue_84 : decode cX3_writeValue 84 = .ok (.iconst 1, 1) := by decide +kernel
theorem dX3_writeValue_85 : decode cX3_writeValue 85 = .ok (.invokevirtual 71, 3) := by decide +kernel
theorem dX3_writeValue_88 : decode cX3_writeValue 88 = .ok (.goto 149, 3) := by decide +kernel
theorem dX3_writeValue_91 : decode cX3_writeValue 91 = .ok (.aload_n 0, 1) := by decide +kernel
theorem dX3_writeValue_92 : decode cX3_writeValue 92 = .ok (.sipush 194, 3) := by decide +kernel
theorem dX3_writeValue_95 : decode cX3_writeValue 95 = .ok (.aload_n 2, 1) := by decide +kernel
theorem dX3_writeValue_96 : decode cX3_writeValue 96 = .ok (.getfield 75, 3) := by decide +kernel
theorem dX3_writeValue_99 : decode cX3_writeValue 99 = .ok (.iadd, 1) := by decide +kernel
theorem dX3_writeValue_100 : decode cX3_writeValue 100 = .ok (.i2l, 1) := by decide +kernel
theorem dX3_writeValue_101 : decode cX3_writeValue 101 = .ok (.iconst 1, 1) := by decide +kernel
theorem dX3_writeValue_102 : decode cX3_writeValue 102 = .ok (.invokevirtual 71, 3) := by decide +kernel
theorem dX3_writeValue_105 : decode cX3_writeValue 105 = .ok (.goto 132, 3) := by decide +kernel
theorem dX3_writeValue_108 : decode cX3_writeValue 108 = .ok (.aload_n 0, 1) := by decide +kernel
theorem dX3_writeValue_109 : decode cX3_writeValue 109 = .ok (.aload_n 2, 1) := by decide +kernel
theorem dX3_writeValue_110 : decode cX3_writeValue 110 = .ok (.getfield 78, 3) := by decide +kernel
theorem dX3_writeValue_113 : decode cX3_writeValue 113 = .ok (.aload_n 2, 1) := by decide +kernel
theorem dX3_writeValue_114 : decode cX3_writeValue 114 = .ok (.invokevirtual 82, 3) := by decide +kernel
theorem dX3_writeValue_117 : decode cX3_writeValue 117 = .ok (.invokevirtual 86, 3) := by decide +kernel
theorem dX3_writeValue_120 : decode cX3_writeValue 120 = .ok (.goto 117, 3) := by decide +kernel
theorem dX3_writeValue_123 : decode cX3_writeValue 123 = .ok (.aload_n 0, 1) := by decide +kernel
theorem dX3_writeValue_124 : decode cX3_writeValue 124 = .ok (.ldc2_w 90, 3) := by decide +kernel
theorem dX3_writeValue_127 : decode cX3_writeValue 127 = .ok (.iconst 1, 1) := by decide +kernel
theorem dX3_writeValue_128 : decode cX3_writeValue 128 = .ok (.invokevirtual 71, 3) := by decide +kernel
theorem dX3_writeValue_131 : decode cX3_writeValue 131 = .ok (.aload_n 0, 1) := by decide +kernel
theorem dX3_writeValue_132 : decode cX3_writeValue 132 = .ok (.aload_n 2, 1) := by decide +kernel
theorem dX3_writeValue_133 : decode cX3_writeValue 133 = .ok (.getfield 78, 3) := by decide +kernel
theorem dX3_writeValue_136 : decode cX3_writeValue 136 = .ok (.iconst 4, 1) := by decide +kernel
theorem dX3_writeValue_137 : decode cX3_writeValue 137 = .ok (.invokevirtual 71, 3) := by decide +kernel
theorem dX3_writeValue_140 : decode cX3_writeValue 140 = .ok (.goto 97, 3) := by decide +kernel
theorem dX3_writeValue_143 : decode cX3_writeValue 143 = .ok (.aload_n 0, 1) := by decide +kernel
theorem dX3_writeValue_144 : decode cX3_writeValue 144 = .ok (.ldc2_w 92, 3) := by decide +kernel
theorem dX3_writeValue_147 : decode cX3_writeValue 147 = .ok (.iconst 1, 1) := by decide +kernel
theorem dX3_writeValue_148 : decode cX3_writeValue 148 = .ok (.invokevirtual 71, 3) := by decide +kernel
theorem dX3_writeValue_151 : decode cX3_writeValue 151 = .ok (.aload_n 0, 1) := by decide +kernel
theorem dX3_writeValue_152 : decode cX3_writeValue 152 = .ok (.aload_n 2, 1) := by decide +kernel
theorem dX3_writeValue_153 : decode cX3_writeValue 153 = .ok (.getfield 78, 3) := by decide +kernel
theorem dX3_writeValue_156 : decode cX3_writeValue 156 = .ok (.bipush 8, 2) := by decide +kernel
theorem dX3_writeValue_158 : decode cX3_writeValue 158 = .ok (.invokevirtual 71, 3) := by decide +kernel
theorem dX3_writeValue_161 : decode cX3_writeValue 161 = .ok (.goto 76, 3) := by decide +kernel
theorem dX3_writeValue_164 : decode cX3_writeValue 164 = .ok (.aload_n 0, 1) := by decide +kernel
theorem dX3_writeValue_165 : decode cX3_writeValue 165 = .ok (.aload_n 2, 1) := by decide +kernel
theorem dX3_writeValue_166 : decode cX3_writeValue 166 = .ok (.getfield 78, 3) := by decide +kernel
theorem dX3_writeValue_169 : decode cX3_writeValue 169 = .ok (.aload_n 2, 1) := by decide +kernel
theorem dX3_writeValue_170 : decode cX3_writeValue 170 = .ok (.getfield 75, 3) := by decide +kernel
theorem dX3_writeValue_173 : decode cX3_writeValue 173 = .ok (.invokevirtual 94, 3) := by decide +kernel
theorem dX3_writeValue_176 : decode cX3_writeValue 176 = .ok (.goto 61, 3) := by decide +kernel
theorem dX3_writeValue_179 : decode cX3_writeValue 179 = .ok (.aload_n 0, 1) := by decide +kernel
theorem dX3_writeValue_180 : decode cX3_writeValue 180 = .ok (.aload_n 2, 1) := by decide +kernel
theorem dX3_writeValue_181 : decode cX3_writeValue 181 = .ok (.iload_n 3, 1) := by decide +kernel
theorem dX3_writeValue_182 : decode cX3_writeValue 182 = .ok (.invokevirtual 97, 3) := by decide +kernel
theorem dX3_writeValue_185 : decode cX3_writeValue 185 = .ok (.iconst 0, 1) := by decide +kernel
theorem dX3_writeValue_186 : decode cX3_writeValue 186 = .ok (.istore 4, 2) := by decide +kernel
theorem dX3_writeValue_188 : decode cX3_writeValue 188 = .ok (.iload 4, 2) := by decide +kernel
theorem dX3_writeValue_190 : decode cX3_writeValue 190 = .ok (.aload_n 2, 1) := by decide +kernel
theorem dX3_writeValue_191 : decode cX3_writeValue 191 = .ok (.getfield 101, 3) := by decide +kernel
theorem dX3_writeValue_194 : decode cX3_writeValue 194 = .ok (.if_icmp .ge 35, 3) := by decide +kernel
theorem dX3_writeValue_197 : decode cX3_writeValue 197 = .ok (.aload_n 0, 1) := by decide +kernel
theorem dX3_writeValue_198 : decode cX3_writeValue 198 = .ok (.getfield 33, 3) := by decide +kernel
theorem dX3_writeValue_201 : decode cX3_writeValue 201 = .ok (.ifCond .ne 28, 3) := by decide +kernel
theorem dX3_writeValue_204 : decode cX3_writeValue 204 = .ok (.aload_n 0, 1) := by decide +kernel
theorem dX3_writeValue_205 : decode cX3_writeValue 205 = .ok (.aload_n 1, 1) := by decide +kernel
theorem dX3_writeValue_206 : decode cX3_writeValue 206 = .ok (.aload_n 1, 1) := by decide +kernel
theorem dX3_writeValue_207 : decode cX3_writeValue 207 = .ok (.aload_n 2, 1) := by decide +kernel
theorem dX3_writeValue_208 : decode cX3_writeValue 208 = .ok (.getfield 104, 3) := by decide +kernel
theorem dX3_writeValue_211 : decode cX3_writeValue 211 = .ok (.iload 4, 2) := by decide +kernel
theorem dX3_writeValue_213 : decode cX3_writeValue 213 = .ok (.iaload, 1) := by decide +kernel
theorem dX3_writeValue_214 : decode cX3_writeValue 214 = .ok (.invokevirtual 37, 3) := by decide +kernel
theorem dX3_writeValue_217 : decode cX3_writeValue 217 = .ok (.iload_n 3, 1) := by decide +kernel
theorem dX3_writeValue_218 : decode cX3_writeValue 218 = .ok (.iconst 1, 1) := by decide +kernel
theorem dX3_writeValue_219 : decode cX3_writeValue 219 = .ok (.iadd, 1) := by decide +kernel
theorem dX3_writeValue_220 : decode cX3_writeValue 220 = .ok (.invokevirtual 43, 3) := by decide +kernel
theorem dX3_writeValue_223 : decode cX3_writeValue 223 = .ok (.iinc 4 1, 3) := by decide +kernel
theorem dX3_writeValue_226 : decode cX3_writeValue 226 = .ok (.goto (-38), 3) := by decide +kernel
theorem dX3_writeValue_229 : decode cX3_writeValue 229 = .ok (.goto 8, 3) := by decide +kernel
theorem dX3_writeValue_232 : decode cX3_writeValue 232 = .ok (.aload_n 0, 1) := by decide +kernel
theorem dX3_writeValue_233 : decode cX3_writeValue 233 = .ok (.aload_n 2, 1) := by decide +kernel
theorem dX3_writeValue_234 : decode cX3_writeValue 234 = .ok (.invokevirtual 108, 3) := by decide +kernel
theorem dX3_writeValue_237 : decode cX3_writeValue 237 = .ok (.return_, 1) := by decide +kernel
theorem dX3_beginGroup_0 : decode cX3_beginGroup 0 = .ok (.iload_n 2, 1) := by decide +kernel
theorem dX3_beginGroup_1 : decode cX3_beginGroup 1 = .ok (.bipush 24, 2) := by decide +kernel
theorem dX3_beginGroup_3 : decode cX3_beginGroup 3 = .ok (.if_icmp .lt 9, 3) := by decide +kernel
theorem dX3_beginGroup_6 : decode cX3_beginGroup 6 = .ok (.aload_n 0, 1) := by decide +kernel
theorem dX3_beginGroup_7 : decode cX3_beginGroup 7 = .ok (.iconst 1, 1) := by decide +kernel
theorem dX3_beginGroup_8 : decode cX3_beginGroup 8 = .ok (.putfield 33, 3) := by decide +kernel
theorem dX3_beginGroup_11 : decode cX3_beginGroup 11 = .ok (.return_, 1) := by decide +kernel
theorem dX3_beginGroup_12 : decode cX3_beginGroup 12 = .ok (.aload_n 1, 1) := by decide +kernel
theorem dX3_beginGroup_13 : decode cX3_beginGroup 13 = .ok (.aload_n 0, 1) := by decide +kernel
theorem dX3_beginGroup_14 : decode cX3_beginGroup 14 = .ok (.getfield 21, 3) := by decide +kernel
theorem dX3_beginGroup_17 : decode cX3_beginGroup 17 = .ok (.invokevirtual 47, 3) := by decide +kernel
theorem dX3_beginGroup_20 : decode cX3_beginGroup 20 = .ok (.putfield 57, 3) := by decide +kernel
theorem dX3_beginGroup_23 : decode cX3_beginGroup 23 = .ok (.aload_n 0, 1) := by decide +kernel
theorem dX3_beginGroup_24 : decode cX3_beginGroup 24 = .ok (.getfield 21, 3) := by decide +kernel
theorem dX3_beginGroup_27 : decode cX3_beginGroup 27 = .ok (.aload_n 1, 1) := by decide +kernel
theorem dX3_beginGroup_28 : decode cX3_beginGroup 28 = .ok (.invokevirtual 112, 3) := by decide +kernel
theorem dX3_beginGroup_31 : decode cX3_beginGroup 31 = .ok (.pop, 1) := by decide +kernel
theorem dX3_beginGroup_32 : decode cX3_beginGroup 32 = .ok (.aload_n 1, 1) := by decide +kernel
theorem dX3_beginGroup_33 : decode cX3_beginGroup 33 = .ok (.invokevirtual 116, 3) := by decide +kernel
theorem dX3_beginGroup_36 : decode cX3_beginGroup 36 = .ok (.istore_n 3, 1) := by decide +kernel
theorem dX3_beginGroup_37 : decode cX3_beginGroup 37 = .ok (.iload_n 3, 1) := by decide +kernel
theorem dX3_beginGroup_38 : decode cX3_beginGroup 38 = .ok (.bipush 16, 2) := by decide +kernel
theorem dX3_beginGroup_40 : decode cX3_beginGroup 40 = .ok (.if_icmp .ge 32, 3) := by decide +kernel
theorem dX3_beginGroup_43 : decode cX3_beginGroup 43 = .ok (.aload_n 0, 1) := by decide +kernel
theorem dX3_beginGroup_44 : decode cX3_beginGroup 44 = .ok (.aload_n 1, 1) := by decide +kernel
theorem dX3_beginGroup_45 : decode cX3_beginGroup 45 = .ok (.getfield 66, 3) := by decide +kernel
theorem dX3_beginGroup_48 : decode cX3_beginGroup 48 = .ok (.bipush 7, 2) := by decide +kernel
theorem dX3_beginGroup_50 : decode cX3_beginGroup 50 = .ok (.if_icmp .ne 9, 3) := by decide +kernel
theorem dX3_beginGroup_53 : decode cX3_beginGroup 53 = .ok (.sipush 144, 3) := by decide +kernel
theorem dX3_beginGroup_56 : decode cX3_beginGroup 56 = .ok (.goto 6, 3) := by decide +kernel
theorem dX3_beginGroup_59 : decode cX3_beginGroup 59 = .ok (.sipush 128, 3) := by decide +kernel
theorem dX3_beginGroup_62 : decode cX3_beginGroup 62 = .ok (.iload_n 3, 1) := by decide +kernel
theorem dX3_beginGroup_63 : decode cX3_beginGroup 63 = .ok (.iadd, 1) := by decide +kernel
theorem dX3_beginGroup_64 : decode cX3_beginGroup 64 = .ok (.i2l, 1) := by decide +kernel
theorem dX3_beginGroup_65 : decode cX3_beginGroup 65 = .ok (.iconst 1, 1) := by decide +kernel
theorem dX3_beginGroup_66 : decode cX3_beginGroup 66 = .ok (.invokevirtual 71, 3) := by decide +kernel
theorem dX3_beginGroup_69 : decode cX3_beginGroup 69 = .ok (.goto 33, 3) := by decide +kernel
theorem dX3_beginGroup_72 : decode cX3_beginGroup 72 = .ok (.aload_n 0, 1) := by decide +kernel
theorem dX3_beginGroup_73 : decode cX3_beginGroup 73 = .ok (.aload_n 1, 1) := by decide +kernel
theorem dX3_beginGroup_74 : decode cX3_beginGroup 74 = .ok (.getfield 66, 3) := by decide +kernel
theorem dX3_beginGroup_77 : decode cX3_beginGroup 77 = .ok (.bipush 7, 2) := by decide +kernel
theorem dX3_beginGroup_79 : decode cX3_beginGroup 79 = .ok (.if_icmp .ne 9, 3) := by decide +kernel
theorem dX3_beginGroup_82 : decode cX3_beginGroup 82 = .ok (.ldc2_w 119, 3) := by decide +kernel
theorem dX3_beginGroup_85 : decode cX3_beginGroup 85 = .ok (.goto 6, 3) := by decide +kernel
theorem dX3_beginGroup_88 : decode cX3_beginGroup 88 = .ok (.ldc2_w 121, 3) := by decide +kernel
theorem dX3_beginGroup_91 : decode cX3_beginGroup 91 = .ok (.iconst 1, 1) := by decide +kernel
theorem dX3_beginGroup_92 : decode cX3_beginGroup 92 = .ok (.invokevirtual 71, 3) := by decide +kernel
theorem dX3_beginGroup_95 : decode cX3_beginGroup 95 = .ok (.aload_n 0, 1) := by decide +kernel
theorem dX3_beginGroup_96 : decode cX3_beginGroup 96 = .ok (.iload_n 3, 1) := by decide +kernel
theorem dX3_beginGroup_97 : decode cX3_beginGroup 97 = .ok (.i2l, 1) := by decide +kernel
theorem dX3_beginGroup_98 : decode cX3_beginGroup 98 = .ok (.iconst 2, 1) := by decide +kernel
theorem dX3_beginGroup_99 : decode cX3_beginGroup 99 = .ok (.invokevirtual 71, 3) := by decide +kernel
theorem dX3_beginGroup_102 : decode cX3_beginGroup 102 = .ok (.return_, 1) := by decide +kernel
theorem dX3_writeReference_0 : decode cX3_writeReference 0 = .ok (.iload_n 1, 1) := by decide +kernel
theorem dX3_writeReference_1 : decode cX3_writeReference 1 = .ok (.i2l, 1) := by decide +kernel
theorem dX3_writeReference_2 : decode cX3_writeReference 2 = .ok (.iconst 0, 1) := by decide +kernel
theorem dX3_writeReference_3 : decode cX3_writeReference 3 = .ok (.invokestatic 123, 3) := by decide +kernel
theorem dX3_writeReference_6 : decode cX3_writeReference 6 = .ok (.istore_n 2, 1) := by decide +kernel
theorem dX3_writeReference_7 : decode cX3_writeReference 7 = .ok (.iload_n 2, 1) := by decide +kernel
theorem dX3_writeReference_8 : decode cX3_writeReference 8 = .ok (.iconst (-1), 1) := by decide +kernel
theorem dX3_writeReference_9 : decode cX3_writeReference 9 = .ok (.if_icmp .ne 7, 3) := by decide +kernel
theorem dX3_writeReference_12 : decode cX3_writeReference 12 = .ok (.iconst 1, 1) := by decide +kernel
theorem dX3_writeReference_13 : decode cX3_writeReference 13 = .ok (.goto 8, 3) := by decide +kernel
theorem dX3_writeReference_16 : decode cX3_writeReference 16 = .ok (.iconst 1, 1) := by decide +kernel
theorem dX3_writeReference_17 : decode cX3_writeReference 17 = .ok (.iconst 1, 1) := by decide +kernel
theorem dX3_writeReference_18 : decode cX3_writeReference 18 = .ok (.iload_n 2, 1) := by decide +kernel
theorem dX3_writeReference_19 : decode cX3_writeReference 19 = .ok (.ishl, 1) := by decide +kernel
theorem dX3_writeReference_20 : decode cX3_writeReference 20 = .ok (.iadd, 1) := by decide +kernel
theorem dX3_writeReference_21 : decode cX3_writeReference 21 = .ok (.istore_n 3, 1) := by decide +kernel
theorem dX3_writeReference_22 : decode cX3_writeReference 22 = .ok (.aload_n 0, 1) := by decide +kernel
theorem dX3_writeReference_23 : decode cX3_writeReference 23 = .ok (.iload_n 3, 1) := by decide +kernel
theorem dX3_writeReference_24 : decode cX3_writeReference 24 = .ok (.invokestatic 127, 3) := by decide +kernel
theorem dX3_writeReference_27 : decode cX3_writeReference 27 = .ok (.sipush 199, 3) := by decide +kernel
theorem dX3_writeReference_30 : decode cX3_writeReference 30 = .ok (.iload_n 3, 1) := by decide +kernel
theorem dX3_writeReference_31 : decode cX3_writeReference 31 = .ok (.invokevirtual 131, 3) := by decide +kernel
theorem dX3_writeReference_34 : decode cX3_writeReference 34 = .ok (.aload_n 0, 1) := by decide +kernel
theorem dX3_writeReference_35 : decode cX3_writeReference 35 = .ok (.lconst 0, 1) := by decide +kernel
theorem dX3_writeReference_36 : decode cX3_writeReference 36 = .ok (.iconst 1, 1) := by decide +kernel
theorem dX3_writeReference_37 : decode cX3_writeReference 37 = .ok (.invokevirtual 71, 3) := by decide +kernel
theorem dX3_writeReference_40 : decode cX3_writeReference 40 = .ok (.aload_n 0, 1) := by decide +kernel
theorem dX3_writeReference_41 : decode cX3_writeReference 41 = .ok (.iload_n 1, 1) := by decide +kernel
theorem dX3_writeReference_42 : decode cX3_writeReference 42 = .ok (.i2l, 1) := by decide +kernel
theorem dX3_writeReference_43 : decode cX3_writeReference 43 = .ok (.iconst 0, 1) := by decide +kernel
theorem dX3_writeReference_44 : decode cX3_writeReference 44 = .ok (.invokevirtual 86, 3) := by decide +kernel
theorem dX3_writeReference_47 : decode cX3_writeReference 47 = .ok (.return_, 1) := by decide +kernel
theorem dX3_writeTime_0 : decode cX3_writeTime 0 = .ok (.lload_n 1, 1) := by decide +kernel
theorem dX3_writeTime_1 : decode cX3_writeTime 1 = .ok (.bipush 34, 2) := by decide +kernel
theorem dX3_writeTime_3 : decode cX3_writeTime 3 = .ok (.lshr, 1) := by decide +kernel
theorem dX3_writeTime_4 : decode cX3_writeTime 4 = .ok (.lconst 0, 1) := by decide +kernel
theorem dX3_writeTime_5 : decode cX3_writeTime 5 = .ok (.lcmp, 1) := by decide +kernel
theorem dX3_writeTime_6 : decode cX3_writeTime 6 = .ok (.ifCond .ne 7, 3) := by decide +kernel
theorem dX3_writeTime_9 : decode cX3_writeTime 9 = .ok (.iconst 1, 1) := by decide +kernel
theorem dX3_writeTime_10 : decode cX3_writeTime 10 = .ok (.goto 4, 3) := by decide +kernel
theorem dX3_writeTime_13 : decode cX3_writeTime 13 = .ok (.iconst 0, 1) := by decide +kernel
theorem dX3_writeTime_14 : decode cX3_writeTime 14 = .ok (.istore 4, 2) := by decide +kernel
theorem dX3_writeTime_16 : decode cX3_writeTime 16 = .ok (.iload_n 3, 1) := by decide +kernel
theorem dX3_writeTime_17 : decode cX3_writeTime 17 = .ok (.ifCond .ne 16, 3) := by decide +kernel
theorem dX3_writeTime_20 : decode cX3_writeTime 20 = .ok (.lload_n 1, 1) := by decide +kernel
theorem dX3_writeTime_21 : decode cX3_writeTime 21 = .ok (.bipush 32, 2) := by decide +kernel
theorem dX3_writeTime_23 : decode cX3_writeTime 23 = .ok (.lshr, 1) := by decide +kernel
theorem dX3_writeTime_24 : decode cX3_writeTime 24 = .ok (.lconst 0, 1) := by decide +kernel
theorem dX3_writeTime_25 : decode cX3_writeTime 25 = .ok (.lcmp, 1) := by decide +kernel
theorem dX3_writeTime_26 : decode cX3_writeTime 26 = .ok (.ifCond .ne 7, 3) := by decide +kernel
theorem dX3_writeTime_29 : decode cX3_writeTime 29 = .ok (.iconst 1, 1) := by decide +kernel
theorem dX3_writeTime_30 : decode cX3_writeTime 30 = .ok (.goto 4, 3) := by decide +kernel
theorem dX3_writeTime_33 : decode cX3_writeTime 33 = .ok (.iconst 0, 1) := by decide +kernel
theorem dX3_writeTime_34 : decode cX3_writeTime 34 = .ok (.istore 5, 2) := by decide +kernel
theorem dX3_writeTime_36 : decode cX3_writeTime 36 = .ok (.iload 5, 2) := by decide +kernel
theorem dX3_writeTime_38 : decode cX3_writeTime 38 = .ok (.ifCond .eq 7, 3) := by decide +kernel
theorem dX3_writeTime_41 : decode cX3_writeTime 41 = .ok (.iconst 4, 1) := by decide +kernel
theorem dX3_writeTime_42 : decode cX3_writeTime 42 = .ok (.goto 15, 3) := by decide +kernel
theorem dX3_writeTime_45 : decode cX3_writeTime 45 = .ok (.iload 4, 2) := by decide +kernel
theorem dX3_writeTime_47 : decode cX3_writeTime 47 = .ok (.ifCond .eq 8, 3) := by decide +kernel
theorem dX3_writeTime_50 : decode cX3_writeTime 50 = .ok (.bipush 8, 2) := by decide +kernel
theorem dX3_writeTime_52 : decode cX3_writeTime 52 = .ok (.goto 5, 3) := by decide +kernel
theorem dX3_writeTime_55 : decode cX3_writeTime 55 = .ok (.bipush 12, 2) := by decide +kernel
theorem dX3_writeTime_57 : decode cX3_writeTime 57 = .ok (.istore 6, 2) := by decide +kernel
theorem dX3_writeTime_59 : decode cX3_writeTime 59 = .ok (.aload_n 0, 1) := by decide +kernel
theorem dX3_writeTime_60 : decode cX3_writeTime 60 = .ok (.iload 6, 2) := by decide +kernel
theorem dX3_writeTime_62 : decode cX3_writeTime 62 = .ok (.invokestatic 127, 3) := by decide +kernel
theorem dX3_writeTime_65 : decode cX3_writeTime 65 = .ok (.sipush 199, 3) := by decide +kernel
theorem dX3_writeTime_68 : decode cX3_writeTime 68 = .ok (.iload 6, 2) := by decide +kernel
theorem dX3_writeTime_70 : decode cX3_writeTime 70 = .ok (.invokevirtual 131, 3) := by decide +kernel
theorem dX3_writeTime_73 : decode cX3_writeTime 73 = .ok (.aload_n 0, 1) := by decide +kernel
theorem dX3_writeTime_74 : decode cX3_writeTime 74 = .ok (.ldc2_w 135, 3) := by decide +kernel
theorem dX3_writeTime_77 : decode cX3_writeTime 77 = .ok (.iconst 1, 1) := by decide +kernel
theorem dX3_writeTime_78 : decode cX3_writeTime 78 = .ok (.invokevirtual 71, 3) := by decide +kernel
theorem dX3_writeTime_81 : decode cX3_writeTime 81 = .ok (.iload 5, 2) := by decide +kernel
theorem dX3_writeTime_83 : decode cX3_writeTime 83 = .ok (.ifCond .eq 12, 3) := by decide +kernel
theorem dX3_writeTime_86 : decode cX3_writeTime 86 = .ok (.aload_n 0, 1) := by decide +kernel
theorem dX3_writeTime_87 : decode cX3_writeTime 87 = .ok (.lload_n 1, 1) := by decide +kernel
theorem dX3_writeTime_88 : decode cX3_writeTime 88 = .ok (.iconst 4, 1) := by decide +kernel
theorem dX3_writeTime_89 : decode cX3_writeTime 89 = .ok (.invokevirtual 71, 3) := by decide +kernel
theorem dX3_writeTime_92 : decode cX3_writeTime 92 = .ok (.goto 38, 3) := by decide +kernel
theorem dX3_writeTime_95 : decode cX3_writeTime 95 = .ok (.iload 4, 2) := by decide +kernel
theorem dX3_writeTime_97 : decode cX3_writeTime 97 = .ok (.ifCond .eq 19, 3) := by decide +kernel
theorem dX3_writeTime_100 : decode cX3_writeTime 100 = .ok (.aload_n 0, 1) := by decide +kernel
theorem dX3_writeTime_101 : decode cX3_writeTime 101 = .ok (.iload_n 3, 1) := by decide +kernel
theorem dX3_writeTime_102 : decode cX3_writeTime 102 = .ok (.i2l, 1) := by decide +kernel
theorem dX3_writeTime_103 : decode cX3_writeTime 103 = .ok (.bipush 34, 2) := by decide +kernel
theorem dX3_writeTime_105 : decode cX3_writeTime 105 = .ok (.lshl, 1) := by decide +kernel
theorem dX3_writeTime_106 : decode cX3_writeTime 106 = .ok (.lload_n 1, 1) := by decide +kernel
theorem dX3_writeTime_107 : decode cX3_writeTime 107 = .ok (.lor, 1) := by decide +kernel
theorem dX3_writeTime_108 : decode cX3_writeTime 108 = .ok (.bipush 8, 2) := by decide +kernel
theorem dX3_writeTime_110 : decode cX3_writeTime 110 = .ok (.invokevirtual 71, 3) := by decide +kernel
theorem dX3_writeTime_113 : decode cX3_writeTime 113 = .ok (.goto 17, 3) := by decide +kernel
theorem dX3_writeTime_116 : decode cX3_writeTime 116 = .ok (.aload_n 0, 1) := by decide +kernel
theorem dX3_writeTime_117 : decode cX3_writeTime 117 = .ok (.iload_n 3, 1) := by decide +kernel
theorem dX3_writeTime_118 : decode cX3_writeTime 118 = .ok (.i2l, 1) := by decide +kernel
theorem dX3_writeTime_119 : decode cX3_writeTime 119 = .ok (.iconst 4, 1) := by decide +kernel
theorem dX3_writeTime_120 : decode cX3_writeTime 120 = .ok (.invokevirtual 71, 3) := by decide +kernel
theorem dX3_writeTime_123 : decode cX3_writeTime 123 = .ok (.aload_n 0, 1) := by decide +kernel
theorem dX3_writeTime_124 : decode cX3_writeTime 124 = .ok (.lload_n 1, 1) := by decide +kernel
theorem dX3_writeTime_125 : decode cX3_writeTime 125 = .ok (.bipush 8, 2) := by decide +kernel
theorem dX3_writeTime_127 : decode cX3_writeTime 127 = .ok (.invokevirtual 71, 3) := by decide +kernel
theorem dX3_writeTime_130 : decode cX3_writeTime 130 = .ok (.return_, 1) := by decide +kernel
theorem dX3_writeRow_0 : decode cX3_writeRow 0 = .ok (.aload_n 1, 1) := by decide +kernel
theorem dX3_writeRow_1 : decode cX3_writeRow 1 = .ok (.getfield 137, 3) := by decide +kernel
theorem dX3_writeRow_4 : decode cX3_writeRow 4 = .ok (.arraylength, 1) := by decide +kernel
theorem dX3_writeRow_5 : decode cX3_writeRow 5 = .ok (.istore_n 2, 1) := by decide +kernel
theorem dX3_writeRow_6 : decode cX3_writeRow 6 = .ok (.aload_n 1, 1) := by decide +kernel
theorem dX3_writeRow_7 : decode cX3_writeRow 7 = .ok (.getfield 66, 3) := by decide +kernel
theorem dX3_writeRow_10 : decode cX3_writeRow 10 = .ok (.iconst 5, 1) := by decide +kernel
theorem dX3_writeRow_11 : decode cX3_writeRow 11 = .ok (.if_icmp .ne 29, 3) := by decide +kernel
theorem dX3_writeRow_14 : decode cX3_writeRow 14 = .ok (.aload_n 0, 1) := by decide +kernel
theorem dX3_writeRow_15 : decode cX3_writeRow 15 = .ok (.iload_n 2, 1) := by decide +kernel
theorem dX3_writeRow_16 : decode cX3_writeRow 16 = .ok (.bipush 32, 2) := by decide +kernel
theorem dX3_writeRow_18 : decode cX3_writeRow 18 = .ok (.if_icmp .ge 11, 3) := by decide +kernel
theorem dX3_writeRow_21 : decode cX3_writeRow 21 = .ok (.sipush 160, 3) := by decide +kernel
theorem dX3_writeRow_24 : decode cX3_writeRow 24 = .ok (.iload_n 2, 1) := by decide +kernel
theorem dX3_writeRow_25 : decode cX3_writeRow 25 = .ok (.iadd, 1) := by decide +kernel
theorem dX3_writeRow_26 : decode cX3_writeRow 26 = .ok (.goto 4, 3) := by decide +kernel
theorem dX3_writeRow_29 : decode cX3_writeRow 29 = .ok (.iconst (-1), 1) := by decide +kernel
theorem dX3_writeRow_30 : decode cX3_writeRow 30 = .ok (.sipush 217, 3) := by decide +kernel
theorem dX3_writeRow_33 : decode cX3_writeRow 33 = .ok (.iload_n 2, 1) := by decide +kernel
theorem dX3_writeRow_34 : decode cX3_writeRow 34 = .ok (.invokevirtual 131, 3) := by decide +kernel
theorem dX3_writeRow_37 : decode cX3_writeRow 37 = .ok (.goto 46, 3) := by decide +kernel
theorem dX3_writeRow_40 : decode cX3_writeRow 40 = .ok (.aload_n 1, 1) := by decide +kernel
theorem dX3_writeRow_41 : decode cX3_writeRow 41 = .ok (.getfield 66, 3) := by decide +kernel
theorem dX3_writeRow_44 : decode cX3_writeRow 44 = .ok (.bipush 6, 2) := by decide +kernel
theorem dX3_writeRow_46 : decode cX3_writeRow 46 = .ok (.if_icmp .ne 15, 3) := by decide +kernel
theorem dX3_writeRow_49 : decode cX3_writeRow 49 = .ok (.aload_n 0, 1) := by decide +kernel
theorem dX3_writeRow_50 : decode cX3_writeRow 50 = .ok (.iconst (-1), 1) := by decide +kernel
theorem dX3_writeRow_51 : decode cX3_writeRow 51 = .ok (.sipush 196, 3) := by decide +kernel
theorem dX3_writeRow_54 : decode cX3_writeRow 54 = .ok (.iload_n 2, 1) := by decide +kernel
theorem dX3_writeRow_55 : decode cX3_writeRow 55 = .ok (.invokevirtual 131, 3) := by decide +kernel
theorem dX3_writeRow_58 : decode cX3_writeRow 58 = .ok (.goto 25, 3) := by decide +kernel
theorem dX3_writeRow_61 : decode cX3_writeRow 61 = .ok (.aload_n 0, 1) := by decide +kernel
theorem dX3_writeRow_62 : decode cX3_writeRow 62 = .ok (.iload_n 2, 1) := by decide +kernel
theorem dX3_writeRow_63 : decode cX3_writeRow 63 = .ok (.invokestatic 127, 3) := by decide +kernel
theorem dX3_writeRow_66 : decode cX3_writeRow 66 = .ok (.sipush 199, 3) := by decide +kernel
theorem dX3_writeRow_69 : decode cX3_writeRow 69 = .ok (.iload_n 2, 1) := by decide +kernel
theorem dX3_writeRow_70 : decode cX3_writeRow 70 = .ok (.invokevirtual 131, 3) := by decide +kernel
theorem dX3_writeRow_73 : decode cX3_writeRow 73 = .ok (.aload_n 0, 1) := by decide +kernel
theorem dX3_writeRow_74 : decode cX3_writeRow 74 = .ok (.aload_n 1, 1) := by decide +kernel
theorem dX3_writeRow_75 : decode cX3_writeRow 75 = .ok (.getfield 75, 3) := by decide +kernel
theorem dX3_writeRow_78 : decode cX3_writeRow 78 = .ok (.i2l, 1) := by decide +kernel
theorem dX3_writeRow_79 : decode cX3_writeRow 79 = .ok (.iconst 1, 1) := by decide +kernel
theorem dX3_writeRow_80 : decode cX3_writeRow 80 = .ok (.invokevirtual 71, 3) := by decide +kernel
theorem dX3_writeRow_83 : decode cX3_writeRow 83 = .ok (.aload_n 0, 1) := by decide +kernel
theorem dX3_writeRow_84 : decode cX3_writeRow 84 = .ok (.iload_n 2, 1) := by decide +kernel
theorem dX3_writeRow_85 : decode cX3_writeRow 85 = .ok (.invokevirtual 141, 3) := by decide +kernel
theorem dX3_writeRow_88 : decode cX3_writeRow 88 = .ok (.ifCond .eq 14, 3) := by decide +kernel
theorem dX3_writeRow_91 : decode cX3_writeRow 91 = .ok (.aload_n 0, 1) := by decide +kernel
theorem dX3_writeRow_92 : decode cX3_writeRow 92 = .ok (.getfield 12, 3) := by decide +kernel
theorem dX3_writeRow_95 : decode cX3_writeRow 95 = .ok (.aload_n 1, 1) := by decide +kernel
theorem dX3_writeRow_96 : decode cX3_writeRow 96 = .ok (.getfield 137, 3) := by decide +kernel
theorem dX3_writeRow_99 : decode cX3_writeRow 99 = .ok (.invokevirtual 145, 3) := by decide +kernel
theorem dX3_writeRow_102 : decode cX3_writeRow 102 = .ok (.return_, 1) := by decide +kernel
theorem dX3_writeHead_0 : decode cX3_writeHead 0 = .ok (.iload_n 1, 1) := by decide +kernel
theorem dX3_writeHead_1 : decode cX3_writeHead 1 = .ok (.iconst (-1), 1) := by decide +kernel
theorem dX3_writeHead_2 : decode cX3_writeHead 2 = .ok (.if_icmp .eq 11, 3) := by decide +kernel
theorem dX3_writeHead_5 : decode cX3_writeHead 5 = .ok (.aload_n 0, 1) := by decide +kernel
theorem dX3_writeHead_6 : decode cX3_writeHead 6 = .ok (.iload_n 1, 1) := by decide +kernel
theorem dX3_writeHead_7 : decode cX3_writeHead 7 = .ok (.i2l, 1) := by decide +kernel
theorem dX3_writeHead_8 : decode cX3_writeHead 8 = .ok (.iconst 1, 1) := by decide +kernel
theorem dX3_writeHead_9 : decode cX3_writeHead 9 = .ok (.invokevirtual 71, 3) := by decide +kernel
theorem dX3_writeHead_12 : decode cX3_writeHead 12 = .ok (.return_, 1) := by decide +kernel
theorem dX3_writeHead_13 : decode cX3_writeHead 13 = .ok (.iload_n 3, 1) := by decide +kernel
theorem dX3_writeHead_14 : decode cX3_writeHead 14 = .ok (.sipush 256, 3) := by decide +kernel
theorem dX3_writeHead_17 : decode cX3_writeHead 17 = .ok (.if_icmp .ge 7, 3) := by decide +kernel
theorem dX3_writeHead_20 : decode cX3_writeHead 20 = .ok (.iconst 0, 1) := by decide +kernel
theorem dX3_writeHead_21 : decode cX3_writeHead 21 = .ok (.goto 14, 3) := by decide +kernel
theorem dX3_writeHead_24 : decode cX3_writeHead 24 = .ok (.iload_n 3, 1) := by decide +kernel
theorem dX3_writeHead_25 : decode cX3_writeHead 25 = .ok (.ldc 149, 2) := by decide +kernel
theorem dX3_writeHead_27 : decode cX3_writeHead 27 = .ok (.if_icmp .ge 7, 3) := by decide +kernel
theorem dX3_writeHead_30 : decode cX3_writeHead 30 = .ok (.iconst 1, 1) := by decide +kernel
theorem dX3_writeHead_31 : decode cX3_writeHead 31 = .ok (.goto 4, 3) := by decide +kernel
theorem dX3_writeHead_34 : decode cX3_writeHead 34 = .ok (.iconst 2, 1) := by decide +kernel
theorem dX3_writeHead_35 : decode cX3_writeHead 35 = .ok (.istore 4, 2) := by decide +kernel
theorem dX3_writeHead_37 : decode cX3_writeHead 37 = .ok (.aload_n 0, 1) := by decide +kernel
theorem dX3_writeHead_38 : decode cX3_writeHead 38 = .ok (.iload_n 2, 1) := by decide +kernel
theorem dX3_writeHead_39 : decode cX3_writeHead 39 = .ok (.iload 4, 2) := by decide +kernel
theorem dX3_writeHead_41 : decode cX3_writeHead 41 = .ok (.iadd, 1) := by decide +kernel
theorem dX3_writeHead_42 : decode cX3_writeHead 42 = .ok (.i2l, 1) := by decide +kernel
theorem dX3_writeHead_43 : decode cX3_writeHead 43 = .ok (.iconst 1, 1) := by decide +kernel
theorem dX3_writeHead_44 : decode cX3_writeHead 44 = .ok (.invokevirtual 71, 3) := by decide +kernel
theorem dX3_writeHead_47 : decode cX3_writeHead 47 = .ok (.aload_n 0, 1) := by decide +kernel
theorem dX3_writeHead_48 : decode cX3_writeHead 48 = .ok (.iload_n 3, 1) := by decide +kernel
theorem dX3_writeHead_49 : decode cX3_writeHead 49 = .ok (.i2l, 1) := by decide +kernel
theorem dX3_writeHead_50 : decode cX3_writeHead 50 = .ok (.iconst 1, 1) := by decide +kernel
theorem dX3_writeHead_51 : decode cX3_writeHead 51 = .ok (.iload 4, 2) := by decide +kernel
theorem dX3_writeHead_53 : decode cX3_writeHead 53 = .ok (.ishl, 1) := by decide +kernel
theorem dX3_writeHead_54 : decode cX3_writeHead 54 = .ok (.invokevirtual 71, 3) := by decide +kernel
theorem dX3_writeHead_57 : decode cX3_writeHead 57 = .ok (.return_, 1) := by decide +kernel
theorem dX3_extensionLead_0 : decode cX3_extensionLead 0 = .ok (.iconst 0, 1) := by decide +kernel
theorem dX3_extensionLead_1 : decode cX3_extensionLead 1 = .ok (.istore_n 1, 1) := by decide +kernel
theorem dX3_extensionLead_2 : decode cX3_extensionLead 2 = .ok (.iload_n 1, 1) := by decide +kernel
theorem dX3_extensionLead_3 : decode cX3_extensionLead 3 = .ok (.iconst 5, 1) := by decide +kernel
theorem dX3_extensionLead_4 : decode cX3_extensionLead 4 = .ok (.if_icmp .ge 22, 3) := by decide +kernel
theorem dX3_extensionLead_7 : decode cX3_extensionLead 7 = .ok (.iload_n 0, 1) := by decide +kernel
theorem dX3_extensionLead_8 : decode cX3_extensionLead 8 = .ok (.iconst 1, 1) := by decide +kernel
theorem dX3_extensionLead_9 : decode cX3_extensionLead 9 = .ok (.iload_n 1, 1) := by decide +kernel
theorem dX3_extensionLead_10 : decode cX3_extensionLead 10 = .ok (.ishl, 1) := by decide +kernel
theorem dX3_extensionLead_11 : decode cX3_extensionLead 11 = .ok (.if_icmp .ne 9, 3) := by decide +kernel
theorem dX3_extensionLead_14 : decode cX3_extensionLead 14 = .ok (.sipush 212, 3) := by decide +kernel
theorem dX3_extensionLead_17 : decode cX3_extensionLead 17 = .ok (.iload_n 1, 1) := by decide +kernel
theorem dX3_extensionLead_18 : decode cX3_extensionLead 18 = .ok (.iadd, 1) := by decide +kernel
theorem dX3_extensionLead_19 : decode cX3_extensionLead 19 = .ok (.ireturn, 1) := by decide +kernel
theorem dX3_extensionLead_20 : decode cX3_extensionLead 20 = .ok (.iinc 1 1, 3) := by decide +kernel
theorem dX3_extensionLead_23 : decode cX3_extensionLead 23 = .ok (.goto (-21), 3) := by decide +kernel
theorem dX3_extensionLead_26 : decode cX3_extensionLead 26 = .ok (.iconst (-1), 1) := by decide +kernel
theorem dX3_extensionLead_27 : decode cX3_extensionLead 27 = .ok (.ireturn, 1) := by decide +kernel
theorem dX3_writeInteger_0 : decode cX3_writeInteger 0 = .ok (.lload_n 1, 1) := by decide +kernel
theorem dX3_writeInteger_1 : decode cX3_writeInteger 1 = .ok (.iload_n 3, 1) := by decide +kernel
theorem dX3_writeInteger_2 : decode cX3_writeInteger 2 = .ok (.invokestatic 123, 3) := by decide +kernel
theorem dX3_writeInteger_5 : decode cX3_writeInteger 5 = .ok (.istore 4, 2) := by decide +kernel
theorem dX3_writeInteger_7 : decode cX3_writeInteger 7 = .ok (.iload 4, 2) := by decide +kernel
theorem dX3_writeInteger_9 : decode cX3_writeInteger 9 = .ok (.iconst (-1), 1) := by decide +kernel
theorem dX3_writeInteger_10 : decode cX3_writeInteger 10 = .ok (.if_icmp .ne 12, 3) := by decide +kernel
theorem dX3_writeInteger_13 : decode cX3_writeInteger 13 = .ok (.aload_n 0, 1) := by decide +kernel
theorem dX3_writeInteger_14 : decode cX3_writeInteger 14 = .ok (.lload_n 1, 1) := by decide +kernel
theorem dX3_writeInteger_15 : decode cX3_writeInteger 15 = .ok (.iconst 1, 1) := by decide +kernel
theorem dX3_writeInteger_16 : decode cX3_writeInteger 16 = .ok (.invokevirtual 71, 3) := by decide +kernel
theorem dX3_writeInteger_19 : decode cX3_writeInteger 19 = .ok (.goto 40, 3) := by decide +kernel
theorem dX3_writeInteger_22 : decode cX3_writeInteger 22 = .ok (.aload_n 0, 1) := by decide +kernel
theorem dX3_writeInteger_23 : decode cX3_writeInteger 23 = .ok (.iload_n 3, 1) := by decide +kernel
theorem dX3_writeInteger_24 : decode cX3_writeInteger 24 = .ok (.ifCond .ne 9, 3) := by decide +kernel
theorem dX3_writeInteger_27 : decode cX3_writeInteger 27 = .ok (.lload_n 1, 1) := by decide +kernel
theorem dX3_writeInteger_28 : decode cX3_writeInteger 28 = .ok (.lconst 0, 1) := by decide +kernel
theorem dX3_writeInteger_29 : decode cX3_writeInteger 29 = .ok (.lcmp, 1) := by decide +kernel
theorem dX3_writeInteger_30 : decode cX3_writeInteger 30 = .ok (.ifCond .lt 9, 3) := by decide +kernel
theorem dX3_writeInteger_33 : decode cX3_writeInteger 33 = .ok (.sipush 204, 3) := by decide +kernel
theorem dX3_writeInteger_36 : decode cX3_writeInteger 36 = .ok (.goto 6, 3) := by decide +kernel
theorem dX3_writeInteger_39 : decode cX3_writeInteger 39 = .ok (.sipush 208, 3) := by decide +kernel
theorem dX3_writeInteger_42 : decode cX3_writeInteger 42 = .ok (.iload 4, 2) := by decide +kernel
theorem dX3_writeInteger_44 : decode cX3_writeInteger 44 = .ok (.iadd, 1) := by decide +kernel
theorem dX3_writeInteger_45 : decode cX3_writeInteger 45 = .ok (.i2l, 1) := by decide +kernel
theorem dX3_writeInteger_46 : decode cX3_writeInteger 46 = .ok (.iconst 1, 1) := by decide +kernel
theorem dX3_writeInteger_47 : decode cX3_writeInteger 47 = .ok (.invokevirtual 71, 3) := by decide +kernel
theorem dX3_writeInteger_50 : decode cX3_writeInteger 50 = .ok (.aload_n 0, 1) := by decide +kernel
theorem dX3_writeInteger_51 : decode cX3_writeInteger 51 = .ok (.lload_n 1, 1) := by decide +kernel
theorem dX3_writeInteger_52 : decode cX3_writeInteger 52 = .ok (.iconst 1, 1) := by decide +kernel
theorem dX3_writeInteger_53 : decode cX3_writeInteger 53 = .ok (.iload 4, 2) := by decide +kernel
theorem dX3_writeInteger_55 : decode cX3_writeInteger 55 = .ok (.ishl, 1) := by decide +kernel
theorem dX3_writeInteger_56 : decode cX3_writeInteger 56 = .ok (.invokevirtual 71, 3) := by decide +kernel
theorem dX3_writeInteger_59 : decode cX3_writeInteger 59 = .ok (.return_, 1) := by decide +kernel
theorem dX3_integerStep_0 : decode cX3_integerStep 0 = .ok (.iload_n 2, 1) := by decide +kernel
theorem dX3_integerStep_1 : decode cX3_integerStep 1 = .ok (.ifCond .eq 5, 3) := by decide +kernel
theorem dX3_integerStep_4 : decode cX3_integerStep 4 = .ok (.iconst 3, 1) := by decide +kernel
theorem dX3_integerStep_5 : decode cX3_integerStep 5 = .ok (.ireturn, 1) := by decide +kernel
theorem dX3_integerStep_6 : decode cX3_integerStep 6 = .ok (.lload_n 0, 1) := by decide +kernel
theorem dX3_integerStep_7 : decode cX3_integerStep 7 = .ok (.ldc2_w 150, 3) := by decide +kernel
theorem dX3_integerStep_10 : decode cX3_integerStep 10 = .ok (.lcmp, 1) := by decide +kernel
theorem dX3_integerStep_11 : decode cX3_integerStep 11 = .ok (.ifCond .lt 13, 3) := by decide +kernel
theorem dX3_integerStep_14 : decode cX3_integerStep 14 = .ok (.lload_n 0, 1) := by decide +kernel
theorem dX3_integerStep_15 : decode cX3_integerStep 15 = .ok (.ldc2_w 152, 3) := by decide +kernel
theorem dX3_integerStep_18 : decode cX3_integerStep 18 = .ok (.lcmp, 1) := by decide +kernel
theorem dX3_integerStep_19 : decode cX3_integerStep 19 = .ok (.ifCond .ge 5, 3) := by decide +kernel
theorem dX3_integerStep_22 : decode cX3_integerStep 22 = .ok (.iconst (-1), 1) := by decide +kernel
theorem dX3_integerStep_23 : decode cX3_integerStep 23 = .ok (.ireturn, 1) := by decide +kernel
theorem dX3_integerStep_24 : decode cX3_integerStep 24 = .ok (.lload_n 0, 1) := by decide +kernel
theorem dX3_integerStep_25 : decode cX3_integerStep 25 = .ok (.lconst 0, 1) := by decide +kernel
theorem dX3_integerStep_26 : decode cX3_integerStep 26 = .ok (.lcmp, 1) := by decide +kernel
theorem dX3_integerStep_27 : decode cX3_integerStep 27 = .ok (.ifCond .ge 13, 3) := by decide +kernel
theorem dX3_integerStep_30 : decode cX3_integerStep 30 = .ok (.lload_n 0, 1) := by decide +kernel
theorem dX3_integerStep_31 : decode cX3_integerStep 31 = .ok (.ldc2_w 135, 3) := by decide +kernel
theorem dX3_integerStep_34 : decode cX3_integerStep 34 = .ok (.lxor, 1) := by decide +kernel
theorem dX3_integerStep_35 : decode cX3_integerStep 35 = .ok (.iconst 1, 1) := by decide +kernel
theorem dX3_integerStep_36 : decode cX3_integerStep 36 = .ok (.lshl, 1) := by decide +kernel
theorem dX3_integerStep_37 : decode cX3_integerStep 37 = .ok (.goto 4, 3) := by decide +kernel
theorem dX3_integerStep_40 : decode cX3_integerStep 40 = .ok (.lload_n 0, 1) := by decide +kernel
theorem dX3_integerStep_41 : decode cX3_integerStep 41 = .ok (.lstore_n 3, 1) := by decide +kernel
theorem dX3_integerStep_42 : decode cX3_integerStep 42 = .ok (.lload_n 3, 1) := by decide +kernel
theorem dX3_integerStep_43 : decode cX3_integerStep 43 = .ok (.bipush 8, 2) := by decide +kernel
theorem dX3_integerStep_45 : decode cX3_integerStep 45 = .ok (.lshr, 1) := by decide +kernel
theorem dX3_integerStep_46 : decode cX3_integerStep 46 = .ok (.lconst 0, 1) := by decide +kernel
theorem dX3_integerStep_47 : decode cX3_integerStep 47 = .ok (.lcmp, 1) := by decide +kernel
theorem dX3_integerStep_48 : decode cX3_integerStep 48 = .ok (.ifCond .ne 5, 3) := by decide +kernel
theorem dX3_integerStep_51 : decode cX3_integerStep 51 = .ok (.iconst 0, 1) := by decide +kernel
theorem dX3_integerStep_52 : decode cX3_integerStep 52 = .ok (.ireturn, 1) := by decide +kernel
theorem dX3_integerStep_53 : decode cX3_integerStep 53 = .ok (.lload_n 3, 1) := by decide +kernel
theorem dX3_integerStep_54 : decode cX3_integerStep 54 = .ok (.bipush 16, 2) := by decide +kernel
theorem dX3_integerStep_56 : decode cX3_integerStep 56 = .ok (.lshr, 1) := by decide +kernel
theorem dX3_integerStep_57 : decode cX3_integerStep 57 = .ok (.lconst 0, 1) := by decide +kernel
theorem dX3_integerStep_58 : decode cX3_integerStep 58 = .ok (.lcmp, 1) := by decide +kernel
theorem dX3_integerStep_59 : decode cX3_integerStep 59 = .ok (.ifCond .ne 5, 3) := by decide +kernel
theorem dX3_integerStep_62 : decode cX3_integerStep 62 = .ok (.iconst 1, 1) := by decide +kernel
theorem dX3_integerStep_63 : decode cX3_integerStep 63 = .ok (.ireturn, 1) := by decide +kernel
theorem dX3_integerStep_64 : decode cX3_integerStep 64 = .ok (.lload_n 3, 1) := by decide +kernel
theorem dX3_integerStep_65 : decode cX3_integerStep 65 = .ok (.bipush 32, 2) := by decide +kernel
theorem dX3_integerStep_67 : decode cX3_integerStep 67 = .ok (.lshr, 1) := by decide +kernel
theorem dX3_integerStep_68 : decode cX3_integerStep 68 = .ok (.lconst 0, 1) := by decide +kernel
theorem dX3_integerStep_69 : decode cX3_integerStep 69 = .ok (.lcmp, 1) := by decide +kernel
theorem dX3_integerStep_70 : decode cX3_integerStep 70 = .ok (.ifCond .ne 7, 3) := by decide +kernel
theorem dX3_integerStep_73 : decode cX3_integerStep 73 = .ok (.iconst 2, 1) := by decide +kernel
theorem dX3_integerStep_74 : decode cX3_integerStep 74 = .ok (.goto 4, 3) := by decide +kernel
theorem dX3_integerStep_77 : decode cX3_integerStep 77 = .ok (.iconst 3, 1) := by decide +kernel
theorem dX3_integerStep_78 : decode cX3_integerStep 78 = .ok (.ireturn, 1) := by decide +kernel
theorem dX3_writeBytes_0 : decode cX3_writeBytes 0 = .ok (.aload_n 0, 1) := by decide +kernel
theorem dX3_writeBytes_1 : decode cX3_writeBytes 1 = .ok (.iload_n 3, 1) := by decide +kernel
theorem dX3_writeBytes_2 : decode cX3_writeBytes 2 = .ok (.invokevirtual 141, 3) := by decide +kernel
theorem dX3_writeBytes_5 : decode cX3_writeBytes 5 = .ok (.ifCond .eq 12, 3) := by decide +kernel
theorem dX3_writeBytes_8 : decode cX3_writeBytes 8 = .ok (.aload_n 0, 1) := by decide +kernel
theorem dX3_writeBytes_9 : decode cX3_writeBytes 9 = .ok (.getfield 12, 3) := by decide +kernel
theorem dX3_writeBytes_12 : decode cX3_writeBytes 12 = .ok (.lload_n 1, 1) := by decide +kernel
theorem dX3_writeBytes_13 : decode cX3_writeBytes 13 = .ok (.iload_n 3, 1) := by decide +kernel
theorem dX3_writeBytes_14 : decode cX3_writeBytes 14 = .ok (.invokevirtual 154, 3) := by decide +kernel
theorem dX3_writeBytes_17 : decode cX3_writeBytes 17 = .ok (.return_, 1) := by decide +kernel
theorem dX3_fits_0 : decode cX3_fits 0 = .ok (.aload_n 0, 1) := by decide +kernel
theorem dX3_fits_1 : decode cX3_fits 1 = .ok (.aload_n 0, 1) := by decide +kernel
theorem dX3_fits_2 : decode cX3_fits 2 = .ok (.getfield 33, 3) := by decide +kernel
theorem dX3_fits_5 : decode cX3_fits 5 = .ok (.ifCond .ne 19, 3) := by decide +kernel
theorem dX3_fits_8 : decode cX3_fits 8 = .ok (.aload_n 0, 1) := by decide +kernel
theorem dX3_fits_9 : decode cX3_fits 9 = .ok (.getfield 12, 3) := by decide +kernel
theorem dX3_fits_12 : decode cX3_fits 12 = .ok (.invokevirtual 157, 3) := by decide +kernel
theorem dX3_fits_15 : decode cX3_fits 15 = .ok (.iload_n 1, 1) := by decide +kernel
theorem dX3_fits_16 : decode cX3_fits 16 = .ok (.iadd, 1) := by decide +kernel
theorem dX3_fits_17 : decode cX3_fits 17 = .ok (.aload_n 0, 1) := by decide +kernel
theorem dX3_fits_18 : decode cX3_fits 18 = .ok (.getfield 29, 3) := by decide +kernel
theorem dX3_fits_21 : decode cX3_fits 21 = .ok (.if_icmp .le 7, 3) := by decide +kernel
theorem dX3_fits_24 : decode cX3_fits 24 = .ok (.iconst 1, 1) := by decide +kernel
theorem dX3_fits_25 : decode cX3_fits 25 = .ok (.goto 4, 3) := by decide +kernel
theorem dX3_fits_28 : decode cX3_fits 28 = .ok (.iconst 0, 1) := by decide +kernel
theorem dX3_fits_29 : decode cX3_fits 29 = .ok (.putfield 33, 3) := by decide +kernel
theorem dX3_fits_32 : decode cX3_fits 32 = .ok (.aload_n 0, 1) := by decide +kernel
theorem dX3_fits_33 : decode cX3_fits 33 = .ok (.getfield 33, 3) := by decide +kernel
theorem dX3_fits_36 : decode cX3_fits 36 = .ok (.ifCond .ne 7, 3) := by decide +kernel
theorem dX3_fits_39 : decode cX3_fits 39 = .ok (.iconst 1, 1) := by decide +kernel
theorem dX3_fits_40 : decode cX3_fits 40 = .ok (.goto 4, 3) := by decide +kernel
theorem dX3_fits_43 : decode cX3_fits 43 = .ok (.iconst 0, 1) := by decide +kernel
theorem dX3_fits_44 : decode cX3_fits 44 = .ok (.ireturn, 1) := by decide +kernel
theorem dX4_init_0 : decode cX4_init 0 = .ok (.aload_n 0, 1) := by decide +kernel
theorem dX4_init_1 : decode cX4_init 1 = .ok (.invokespecial 3, 3) := by decide +kernel
theorem dX4_init_4 : decode cX4_init 4 = .ok (.aload_n 0, 1) := by decide +kernel
theorem dX4_init_5 : decode cX4_init 5 = .ok (.new 9, 3) := by decide +kernel
theorem dX4_init_8 : decode cX4_init 8 = .ok (.dup, 1) := by decide +kernel
theorem dX4_init_9 : decode cX4_init 9 = .ok (.invokespecial 11, 3) := by decide +kernel
theorem dX4_init_12 : decode cX4_init 12 = .ok (.putfield 12, 3) := by decide +kernel
theorem dX4_init_15 : decode cX4_init 15 = .ok (.aload_n 0, 1) := by decide +kernel
theorem dX4_init_16 : decode cX4_init 16 = .ok (.new 18, 3) := by decide +kernel
theorem dX4_init_19 : decode cX4_init 19 = .ok (.dup, 1) := by decide +kernel
theorem dX4_init_20 : decode cX4_init 20 = .ok (.invokespecial 20, 3) := by decide +kernel
theorem dX4_init_23 : decode cX4_init 23 = .ok (.putfield 21, 3) := by decide +kernel
theorem dX4_init_26 : decode cX4_init 26 = .ok (.return_, 1) := by decide +kernel
theorem dX4_readTape_0 : decode cX4_readTape 0 = .ok (.aload_n 2, 1) := by decide +kernel
theorem dX4_readTape_1 : decode cX4_readTape 1 = .ok (.invokevirtual 25, 3) := by decide +kernel
theorem dX4_readTape_4 : decode cX4_readTape 4 = .ok (.istore_n 3, 1) := by decide +kernel
theorem dX4_readTape_5 : decode cX4_readTape 5 = .ok (.aload_n 2, 1) := by decide +kernel
theorem dX4_readTape_6 : decode cX4_readTape 6 = .ok (.getfield 31, 3) := by decide +kernel
theorem dX4_readTape_9 : decode cX4_readTape 9 = .ok (.istore 4, 2) := by decide +kernel
theorem dX4_readTape_11 : decode cX4_readTape 11 = .ok (.aload_n 2, 1) := by decide +kernel
theorem dX4_readTape_12 : decode cX4_readTape 12 = .ok (.getfield 35, 3) := by decide +kernel
theorem dX4_readTape_15 : decode cX4_readTape 15 = .ok (.istore 5, 2) := by decide +kernel
theorem dX4_readTape_17 : decode cX4_readTape 17 = .ok (.aload_n 0, 1) := by decide +kernel
theorem dX4_readTape_18 : decode cX4_readTape 18 = .ok (.iconst 0, 1) := by decide +kernel
theorem dX4_readTape_19 : decode cX4_readTape 19 = .ok (.putfield 38, 3) := by decide +kernel
theorem dX4_readTape_22 : decode cX4_readTape 22 = .ok (.aload_n 0, 1) := by decide +kernel
theorem dX4_readTape_23 : decode cX4_readTape 23 = .ok (.iconst 0, 1) := by decide +kernel
theorem dX4_readTape_24 : decode cX4_readTape 24 = .ok (.putfield 41, 3) := by decide +kernel
theorem dX4_readTape_27 : decode cX4_readTape 27 = .ok (.aload_n 0, 1) := by decide +kernel
theorem dX4_readTape_28 : decode cX4_readTape 28 = .ok (.iconst 0, 1) := by decide +kernel
theorem dX4_readTape_29 : decode cX4_readTape 29 = .ok (.putfield 44, 3) := by decide +kernel
theorem dX4_readTape_32 : decode cX4_readTape 32 = .ok (.aload_n 0, 1) := by decide +kernel
theorem dX4_readTape_33 : decode cX4_readTape 33 = .ok (.aload_n 1, 1) := by decide +kernel
theorem dX4_readTape_34 : decode cX4_readTape 34 = .ok (.aload_n 2, 1) := by decide +kernel
theorem dX4_readTape_35 : decode cX4_readTape 35 = .ok (.iconst 0, 1) := by decide +kernel
theorem dX4_readTape_36 : decode cX4_readTape 36 = .ok (.invokevirtual 47, 3) := by decide +kernel
theorem dX4_readTape_39 : decode cX4_readTape 39 = .ok (.istore 6, 2) := by decide +kernel
theorem dX4_readTape_41 : decode cX4_readTape 41 = .ok (.aload_n 0, 1) := by decide +kernel
theorem dX4_readTape_42 : decode cX4_readTape 42 = .ok (.getfield 41, 3) := by decide +kernel
theorem dX4_readTape_45 : decode cX4_readTape 45 = .ok (.ifCond .ne 26, 3) := by decide +kernel
theorem dX4_readTape_48 : decode cX4_readTape 48 = .ok (.aload_n 0, 1) := by decide +kernel
theorem dX4_readTape_49 : decode cX4_readTape 49 = .ok (.getfield 38, 3) := by decide +kernel
theorem dX4_readTape_52 : decode cX4_readTape 52 = .ok (.aload_n 1, 1) := by decide +kernel
theorem dX4_readTape_53 : decode cX4_readTape 53 = .ok (.invokevirtual 51, 3) := by decide +kernel
theorem dX4_readTape_56 : decode cX4_readTape 56 = .ok (.if_icmp .ge 15, 3) := by decide +kernel
theorem dX4_readTape_59 : decode cX4_readTape 59 = .ok (.aload_n 0, 1) := by decide +kernel
theorem dX4_readTape_60 : decode cX4_readTape 60 = .ok (.bipush 8, 2) := by decide +kernel
theorem dX4_readTape_62 : decode cX4_readTape 62 = .ok (.aload_n 0, 1) := by decide +kernel
theorem dX4_readTape_63 : decode cX4_readTape 63 = .ok (.getfield 38, 3) := by decide +kernel
theorem dX4_readTape_66 : decode cX4_readTape 66 = .ok (.invokevirtual 54, 3) := by decide +kernel
theorem dX4_readTape_69 : decode cX4_readTape 69 = .ok (.istore 6, 2) := by decide +kernel
theorem dX4_readTape_71 : decode cX4_readTape 71 = .ok (.aload_n 0, 1) := by decide +kernel
theorem dX4_readTape_72 : decode cX4_readTape 72 = .ok (.getfield 41, 3) := by decide +kernel
theorem dX4_readTape_75 : decode cX4_readTape 75 = .ok (.ifCond .eq 12, 3) := by decide +kernel
theorem dX4_readTape_78 : decode cX4_readTape 78 = .ok (.aload_n 2, 1) := by decide +kernel
theorem dX4_readTape_79 : decode cX4_readTape 79 = .ok (.iload_n 3, 1) := by decide +kernel
theorem dX4_readTape_80 : decode cX4_readTape 80 = .ok (.iload 4, 2) := by decide +kernel
theorem dX4_readTape_82 : decode cX4_readTape 82 = .ok (.iload 5, 2) := by decide +kernel
theorem dX4_readTape_84 : decode cX4_readTape 84 = .ok (.invokevirtual 58, 3) := by decide +kernel
theorem dX4_readTape_87 : decode cX4_readTape 87 = .ok (.aload_n 0, 1) := by decide +kernel
theorem dX4_readTape_88 : decode cX4_readTape 88 = .ok (.getfield 21, 3) := by decide +kernel
theorem dX4_readTape_91 : decode cX4_readTape 91 = .ok (.invokevirtual 62, 3) := by decide +kernel
theorem dX4_readTape_94 : decode cX4_readTape 94 = .ok (.iload 6, 2) := by decide +kernel
theorem dX4_readTape_96 : decode cX4_readTape 96 = .ok (.ireturn, 1) := by decide +kernel
theorem dX4_endOfValue_0 : decode cX4_endOfValue 0 = .ok (.lconst 1, 1) := by decide +kernel
theorem dX4_endOfValue_1 : decode cX4_endOfValue 1 = .ok (.lstore_n 3, 1) := by decide +kernel
theorem dX4_endOfValue_2 : decode cX4_endOfValue 2 = .ok (.iload_n 2, 1) := by decide +kernel
theorem dX4_endOfValue_3 : decode cX4_endOfValue 3 = .ok (.istore 5, 2) := by decide +kernel
theorem dX4_endOfValue_5 : decode cX4_endOfValue 5 = .ok (.iload_n 2, 1) := by decide +kernel
theorem dX4_endOfValue_6 : decode cX4_endOfValue 6 = .ok (.istore 6, 2) := by decide +kernel
theorem dX4_endOfValue_8 : decode cX4_endOfValue 8 = .ok (.iload 6, 2) := by decide +kernel
theorem dX4_endOfValue_10 : decode cX4_endOfValue 10 = .ok (.aload_n 1, 1) := by decide +kernel
theorem dX4_endOfValue_11 : decode cX4_endOfValue 11 = .ok (.invokevirtual 51, 3) := by decide +kernel
theorem dX4_endOfValue_14 : decode cX4_endOfValue 14 = .ok (.if_icmp .ge 109, 3) := by decide +kernel
theorem dX4_endOfValue_17 : decode cX4_endOfValue 17 = .ok (.lload_n 3, 1) := by decide +kernel
theorem dX4_endOfValue_18 : decode cX4_endOfValue 18 = .ok (.lconst 0, 1) := by decide +kernel
theorem dX4_endOfValue_19 : decode cX4_endOfValue 19 = .ok (.lcmp, 1) := by decide +kernel
theorem dX4_endOfValue_20 : decode cX4_endOfValue 20 = .ok (.ifCond .le 103, 3) := by decide +kernel
theorem dX4_endOfValue_23 : decode cX4_endOfValue 23 = .ok (.iload 5, 2) := by decide +kernel
theorem dX4_endOfValue_25 : decode cX4_endOfValue 25 = .ok (.aload_n 1, 1) := by decide +kernel
theorem dX4_endOfValue_26 : decode cX4_endOfValue 26 = .ok (.invokevirtual 51, 3) := by decide +kernel
theorem dX4_endOfValue_29 : decode cX4_endOfValue 29 = .ok (.if_icmp .lt 5, 3) := by decide +kernel
theorem dX4_endOfValue_32 : decode cX4_endOfValue 32 = .ok (.iconst (-1), 1) := by decide +kernel
theorem dX4_endOfValue_33 : decode cX4_endOfValue 33 = .ok (.ireturn, 1) := by decide +kernel
theorem dX4_endOfValue_34 : decode cX4_endOfValue 34 = .ok (.aload_n 0, 1) := by decide +kernel
theorem dX4_endOfValue_35 : decode cX4_endOfValue 35 = .ok (.getfield 12, 3) := by decide +kernel
theorem dX4_endOfValue_38 : decode cX4_endOfValue 38 = .ok (.aload_n 1, 1) := by decide +kernel
theorem dX4_endOfValue_39 : decode cX4_endOfValue 39 = .ok (.iload 5, 2) := by decide +kernel
theorem dX4_endOfValue_41 : decode cX4_endOfValue 41 = .ok (.invokevirtual 65, 3) := by decide +kernel
theorem dX4_endOfValue_44 : decode cX4_endOfValue 44 = .ok (.aload_n 0, 1) := by decide +kernel
theorem dX4_endOfValue_45 : decode cX4_endOfValue 45 = .ok (.getfield 12, 3) := by decide +kernel
theorem dX4_endOfValue_48 : decode cX4_endOfValue 48 = .ok (.getfield 69, 3) := by decide +kernel
theorem dX4_endOfValue_51 : decode cX4_endOfValue 51 = .ok (.iconst (-1), 1) := by decide +kernel
theorem dX4_endOfValue_52 : decode cX4_endOfValue 52 = .ok (.if_icmp .eq 22, 3) := by decide +kernel
theorem dX4_endOfValue_55 : decode cX4_endOfValue 55 = .ok (.aload_n 0, 1) := by decide +kernel
theorem dX4_endOfValue_56 : decode cX4_endOfValue 56 = .ok (.getfield 12, 3) := by decide +kernel
theorem dX4_endOfValue_59 : decode cX4_endOfValue 59 = .ok (.invokevirtual 72, 3) := by decide +kernel
theorem dX4_endOfValue_62 : decode cX4_endOfValue 62 = .ok (.aload_n 1, 1) := by decide +kernel
theorem dX4_endOfValue_63 : decode cX4_endOfValue 63 = .ok (.invokevirtual 51, 3) := by decide +kernel
theorem dX4_endOfValue_66 : decode cX4_endOfValue 66 = .ok (.iload 5, 2) := by decide +kernel
theorem dX4_endOfValue_68 : decode cX4_endOfValue 68 = .ok (.isub, 1) := by decide +kernel
theorem dX4_endOfValue_69 : decode cX4_endOfValue 69 = .ok (.i2l, 1) := by decide +kernel
theorem dX4_endOfValue_70 : decode cX4_endOfValue 70 = .ok (.lcmp, 1) := by decide +kernel
theorem dX4_endOfValue_71 : decode cX4_endOfValue 71 = .ok (.ifCond .le 5, 3) := by decide +kernel
theorem dX4_endOfValue_74 : decode cX4_endOfValue 74 = .ok (.iconst (-1), 1) := by decide +kernel
theorem dX4_endOfValue_75 : decode cX4_endOfValue 75 = .ok (.ireturn, 1) := by decide +kernel
theorem dX4_endOfValue_76 : decode cX4_endOfValue 76 = .ok (.iload 5, 2) := by decide +kernel
theorem dX4_endOfValue_78 : decode cX4_endOfValue 78 = .ok (.aload_n 0, 1) := by decide +kernel
theorem dX4_endOfValue_79 : decode cX4_endOfValue 79 = .ok (.getfield 12, 3) := by decide +kernel
theorem dX4_endOfValue_82 : decode cX4_endOfValue 82 = .ok (.invokevirtual 72, 3) := by decide +kernel
theorem dX4_endOfValue_85 : decode cX4_endOfValue 85 = .ok (.l2i, 1) := by decide +kernel
theorem dX4_endOfValue_86 : decode cX4_endOfValue 86 = .ok (.iadd, 1) := by decide +kernel
theorem dX4_endOfValue_87 : decode cX4_endOfValue 87 = .ok (.istore 5, 2) := by decide +kernel
theorem dX4_endOfValue_89 : decode cX4_endOfValue 89 = .ok (.lload_n 3, 1) := by decide +kernel
theorem dX4_endOfValue_90 : decode cX4_endOfValue 90 = .ok (.aload_n 0, 1) := by decide +kernel
theorem dX4_endOfValue_91 : decode cX4_endOfValue 91 = .ok (.getfield 12, 3) := by decide +kernel
theorem dX4_endOfValue_94 : decode cX4_endOfValue 94 = .ok (.invokevirtual 76, 3) := by decide +kernel
theorem dX4_endOfValue_97 : decode cX4_endOfValue 97 = .ok (.ifCond .eq 15, 3) := by decide +kernel
theorem dX4_endOfValue_100 : decode cX4_endOfValue 100 = .ok (.aload_n 0, 1) := by decide +kernel
theorem dX4_endOfValue_101 : decode cX4_endOfValue 101 = .ok (.getfield 12, 3) := by decide +kernel
theorem dX4_endOfValue_104 : decode cX4_endOfValue 104 = .ok (.getfield 80, 3) := by decide +kernel
theorem dX4_endOfValue_107 : decode cX4_endOfValue 107 = .ok (.lconst 1, 1) := by decide +kernel
theorem dX4_endOfValue_108 : decode cX4_endOfValue 108 = .ok (.lsub, 1) := by decide +kernel
theorem dX4_endOfValue_109 : decode cX4_endOfValue 109 = .ok (.goto 6, 3) := by decide +kernel
theorem dX4_endOfValue_112 : decode cX4_endOfValue 112 = .ok (.ldc2_w 84, 3) := by decide +kernel
theorem dX4_endOfValue_115 : decode cX4_endOfValue 115 = .ok (.ladd, 1) := by decide +kernel
theorem dX4_endOfValue_116 : decode cX4_endOfValue 116 = .ok (.lstore_n 3, 1) := by decide +kernel
theorem dX4_endOfValue_117 : decode cX4_endOfValue 117 = .ok (.iinc 6 1, 3) := by decide +kernel
theorem dX4_endOfValue_120 : decode cX4_endOfValue 120 = .ok (.goto (-112), 3) := by decide +kernel
theorem dX4_endOfValue_123 : decode cX4_endOfValue 123 = .ok (.lload_n 3, 1) := by decide +kernel
theorem dX4_endOfValue_124 : decode cX4_endOfValue 124 = .ok (.lconst 0, 1) := by decide +kernel
theorem dX4_endOfValue_125 : decode cX4_endOfValue 125 = .ok (.lcmp, 1) := by decide +kernel
theorem dX4_endOfValue_126 : decode cX4_endOfValue 126 = .ok (.ifCond .ne 8, 3) := by decide +kernel
theorem dX4_endOfValue_129 : decode cX4_endOfValue 129 = .ok (.iload 5, 2) := by decide +kernel
theorem dX4_endOfValue_131 : decode cX4_endOfValue 131 = .ok (.goto 4, 3) := by decide +kernel
theorem dX4_endOfValue_134 : decode cX4_endOfValue 134 = .ok (.iconst (-1), 1) := by decide +kernel
theorem dX4_endOfValue_135 : decode cX4_endOfValue 135 = .ok (.ireturn, 1) := by decide +kernel
theorem dX4_refuse_0 : decode cX4_refuse 0 = .ok (.aload_n 0, 1) := by decide +kernel
theorem dX4_refuse_1 : decode cX4_refuse 1 = .ok (.iload_n 1, 1) := by decide +kernel
theorem dX4_refuse_2 : decode cX4_refuse 2 = .ok (.putfield 41, 3) := by decide +kernel
theorem dX4_refuse_5 : decode cX4_refuse 5 = .ok (.aload_n 0, 1) := by decide +kernel
theorem dX4_refuse_6 : decode cX4_refuse 6 = .ok (.iload_n 2, 1) := by decide +kernel
theorem dX4_refuse_7 : decode cX4_refuse 7 = .ok (.putfield 44, 3) := by decide +kernel
theorem dX4_refuse_10 : decode cX4_refuse 10 = .ok (.iconst (-1), 1) := by decide +kernel
theorem dX4_refuse_11 : decode cX4_refuse 11 = .ok (.ireturn, 1) := by decide +kernel
theorem dX4_readValue_0 : decode cX4_readValue 0 = .ok (.aload_n 0, 1) := by decide +kernel
theorem dX4_readValue_1 : decode cX4_readValue 1 = .ok (.getfield 38, 3) := by decide +kernel
theorem dX4_readValue_4 : decode cX4_readValue 4 = .ok (.istore 4, 2) := by decide +kernel
theorem dX4_readValue_6 : decode cX4_readValue 6 = .ok (.iload 4, 2) := by decide +kernel
theorem dX4_readValue_8 : decode cX4_readValue 8 = .ok (.aload_n 1, 1) := by decide +kernel
theorem dX4_readValue_9 : decode cX4_readValue 9 = .ok (.invokevirtual 51, 3) := by decide +kernel
theorem dX4_readValue_12 : decode cX4_readValue 12 = .ok (.if_icmp .lt 11, 3) := by decide +kernel
theorem dX4_readValue_15 : decode cX4_readValue 15 = .ok (.aload_n 0, 1) := by decide +kernel
theorem dX4_readValue_16 : decode cX4_readValue 16 = .ok (.iconst 1, 1) := by decide +kernel
theorem dX4_readValue_17 : decode cX4_readValue 17 = .ok (.iload 4, 2) := by decide +kernel
theorem dX4_readValue_19 : decode cX4_readValue 19 = .ok (.invokevirtual 54, 3) := by decide +kernel
theorem dX4_readValue_22 : decode cX4_readValue 22 = .ok (.ireturn, 1) := by decide +kernel
theorem dX4_readValue_23 : decode cX4_readValue 23 = .ok (.aload_n 0, 1) := by decide +kernel
theorem dX4_readValue_24 : decode cX4_readValue 24 = .ok (.getfield 12, 3) := by decide +kernel
theorem dX4_readValue_27 : decode cX4_readValue 27 = .ok (.aload_n 1, 1) := by decide +kernel
theorem dX4_readValue_28 : decode cX4_readValue 28 = .ok (.iload 4, 2) := by decide +kernel
theorem dX4_readValue_30 : decode cX4_readValue 30 = .ok (.invokevirtual 65, 3) := by decide +kernel
theorem dX4_readValue_33 : decode cX4_readValue 33 = .ok (.aload_n 0, 1) := by decide +kernel
theorem dX4_readValue_34 : decode cX4_readValue 34 = .ok (.getfield 12, 3) := by decide +kernel
theorem dX4_readValue_37 : decode cX4_readValue 37 = .ok (.getfield 69, 3) := by decide +kernel
theorem dX4_readValue_40 : decode cX4_readValue 40 = .ok (.iconst (-1), 1) := by decide +kernel
theorem dX4_readValue_41 : decode cX4_readValue 41 = .ok (.if_icmp .ne 11, 3) := by decide +kernel
theorem dX4_readValue_44 : decode cX4_readValue 44 = .ok (.aload_n 0, 1) := by decide +kernel
theorem dX4_readValue_45 : decode cX4_readValue 45 = .ok (.iconst 2, 1) := by decide +kernel
theorem dX4_readValue_46 : decode cX4_readValue 46 = .ok (.iload 4, 2) := by decide +kernel
theorem dX4_readValue_48 : decode cX4_readValue 48 = .ok (.invokevirtual 54, 3) := by decide +kernel
theorem dX4_readValue_51 : decode cX4_readValue 51 = .ok (.ireturn, 1) := by decide +kernel
theorem dX4_readValue_52 : decode cX4_readValue 52 = .ok (.aload_n 0, 1) := by decide +kernel
theorem dX4_readValue_53 : decode cX4_readValue 53 = .ok (.getfield 12, 3) := by decide +kernel
theorem dX4_readValue_56 : decode cX4_readValue 56 = .ok (.invokevirtual 72, 3) := by decide +kernel
theorem dX4_readValue_59 : decode cX4_readValue 59 = .ok (.aload_n 1, 1) := by decide +kernel
theorem dX4_readValue_60 : decode cX4_readValue 60 = .ok (.invokevirtual 51, 3) := by decide +kernel
theorem dX4_readValue_63 : decode cX4_readValue 63 = .ok (.iload 4, 2) := by decide +kernel
theorem dX4_readValue_65 : decode cX4_readValue 65 = .ok (.isub, 1) := by decide +kernel
theorem dX4_readValue_66 : decode cX4_readValue 66 = .ok (.i2l, 1) := by decide +kernel
theorem dX4_readValue_67 : decode cX4_readValue 67 = .ok (.lcmp, 1) := by decide +kernel
theorem dX4_readValue_68 : decode cX4_readValue 68 = .ok (.ifCond .le 11, 3) := by decide +kernel
theorem dX4_readValue_71 : decode cX4_readValue 71 = .ok (.aload_n 0, 1) := by decide +kernel
theorem dX4_readValue_72 : decode cX4_readValue 72 = .ok (.iconst 1, 1) := by decide +kernel
theorem dX4_readValue_73 : decode cX4_readValue 73 = .ok (.iload 4, 2) := by decide +kernel
theorem dX4_readValue_75 : decode cX4_readValue 75 = .ok (.invokevirtual 54, 3) := by decide +kernel
theorem dX4_readValue_78 : decode cX4_readValue 78 = .ok (.ireturn, 1) := by decide +kernel
theorem dX4_readValue_79 : decode cX4_readValue 79 = .ok (.aload_n 0, 1) := by decide +kernel
theorem dX4_readValue_80 : decode cX4_readValue 80 = .ok (.iload 4, 2) := by decide +kernel
theorem dX4_readValue_82 : decode cX4_readValue 82 = .ok (.aload_n 0, 1) := by decide +kernel
theorem dX4_readValue_83 : decode cX4_readValue 83 = .ok (.getfield 12, 3) := by decide +kernel
theorem dX4_readValue_86 : decode cX4_readValue 86 = .ok (.invokevirtual 72, 3) := by decide +kernel
theorem dX4_readValue_89 : decode cX4_readValue 89 = .ok (.l2i, 1) := by decide +kernel
theorem dX4_readValue_90 : decode cX4_readValue 90 = .ok (.iadd, 1) := by decide +kernel
theorem dX4_readValue_91 : decode cX4_readValue 91 = .ok (.putfield 38, 3) := by decide +kernel
theorem dX4_readValue_94 : decode cX4_readValue 94 = .ok (.aload_n 0, 1) := by decide +kernel
theorem dX4_readValue_95 : decode cX4_readValue 95 = .ok (.getfield 12, 3) := by decide +kernel
theorem dX4_readValue_98 : decode cX4_readValue 98 = .ok (.getfield 69, 3) := by decide +kernel
theorem dX4_readValue_101 : decode cX4_readValue 101 = .ok (.tableswitch 79 5 11 #[53, 53, 43, 43, 53, 62, 71], 43) := by decide +kernel
theorem dX4_readValue_144 : decode cX4_readValue 144 = .ok (.aload_n 0, 1) := by decide +kernel
theorem dX4_readValue_145 : decode cX4_readValue 145 = .ok (.aload_n 1, 1) := by decide +kernel
theorem dX4_readValue_146 : decode cX4_readValue 146 = .ok (.aload_n 2, 1) := by decide +kernel
theorem dX4_readValue_147 : decode cX4_readValue 147 = .ok (.iload 4, 2) := by decide +kernel
theorem dX4_readValue_149 : decode cX4_readValue 149 = .ok (.iload_n 3, 1) := by decide +kernel
theorem dX4_readValue_150 : decode cX4_readValue 150 = .ok (.invokevirtual 86, 3) := by decide +kernel
theorem dX4_readValue_153 : decode cX4_readValue 153 = .ok (.ireturn, 1) := by decide +kernel
theorem dX4_readValue_154 : decode cX4_readValue 154 = .ok (.aload_n 0, 1) := by decide +kernel
theorem dX4_readValue_155 : decode cX4_readValue 155 = .ok (.aload_n 1, 1) := by decide +kernel
theorem dX4_readValue_156 : decode cX4_readValue 156 = .ok (.aload_n 2, 1) := by decide +kernel
theorem dX4_readValue_157 : decode cX4_readValue 157 = .ok (.iload 4, 2) := by decide +kernel
theorem dX4_readValue_159 : decode cX4_readValue 159 = .ok (.invokevirtual 90, 3) := by decide +kernel
theorem dX4_readValue_162 : decode cX4_readValue 162 = .ok (.ireturn, 1) := by decide +kernel
theorem dX4_readValue_163 : decode cX4_readValue 163 = .ok (.aload_n 0, 1) := by decide +kernel
theorem dX4_readValue_164 : decode cX4_readValue 164 = .ok (.aload_n 1, 1) := by decide +kernel
theorem dX4_readValue_165 : decode cX4_readValue 165 = .ok (.aload_n 2, 1) := by decide +kernel
theorem dX4_readValue_166 : decode cX4_readValue 166 = .ok (.iload 4, 2) := by decide +kernel
theorem dX4_readValue_168 : decode cX4_readValue 168 = .ok (.invokevirtual 93, 3) := by decide +kernel
theorem dX4_readValue_171 : decode cX4_readValue 171 = .ok (.ireturn, 1) := by decide +kernel
theorem dX4_readValue_172 : decode cX4_readValue 172 = .ok (.aload_n 0, 1) := by decide +kernel
theorem dX4_readValue_173 : decode cX4_readValue 173 = .ok (.aload_n 1, 1) := by decide +kernel
theorem dX4_readValue_174 : decode cX4_readValue 174 = .ok (.iload 4, 2) := by decide +kernel
theorem dX4_readValue_176 : decode cX4_readValue 176 = .ok (.invokevirtual 96, 3) := by decide +kernel
theorem dX4_readValue_179 : decode cX4_readValue 179 = .ok (.ireturn, 1) := by decide +kernel
theorem dX4_readValue_180 : decode cX4_readValue 180 = .ok (.aload_n 0, 1) := by decide +kernel
theorem dX4_readValue_181 : decode cX4_readValue 181 = .ok (.aload_n 1, 1) := by decide +kernel
theorem dX4_readValue_182 : decode cX4_readValue 182 = .ok (.aload_n 2, 1) := by decide +kernel
theorem dX4_readValue_183 : decode cX4_readValue 183 = .ok (.iload 4, 2) := by decide +kernel
theorem dX4_readValue_185 : decode cX4_readValue 185 = .ok (.invokevirtual 100, 3) := by decide +kernel
theorem dX4_readValue_188 : decode cX4_readValue 188 = .ok (.ireturn, 1) := by decide +kernel
theorem dX4_readGroup_0 : decode cX4_readGroup 0 = .ok (.iload 4, 2) := by decide +kernel
theorem dX4_readGroup_2 : decode cX4_readGroup 2 = .ok (.bipush 24, 2) := by decide +kernel
theorem dX4_readGroup_4 : decode cX4_readGroup 4 = .ok (.if_icmp .lt 11, 3) := by decide +kernel
theorem dX4_readGroup_7 : decode cX4_readGroup 7 = .ok (.aload_n 0, 1) := by decide +kernel
theorem dX4_readGroup_8 : decode cX4_readGroup 8 = .ok (.bipush 6, 2) := by decide +kernel
theorem dX4_readGroup_10 : decode cX4_readGroup 10 = .ok (.iload_n 3, 1) := by decide +kernel
theorem dX4_readGroup_11 : decode cX4_readGroup 11 = .ok (.invokevirtual 54, 3) := by decide +kernel
theorem dX4_readGroup_14 : decode cX4_readGroup 14 = .ok (.ireturn, 1) := by decide +kernel
theorem dX4_readGroup_15 : decode cX4_readGroup 15 = .ok (.aload_n 2, 1) := by decide +kernel
theorem dX4_readGroup_16 : decode cX4_readGroup 16 = .ok (.iconst 0, 1) := by decide +kernel
theorem dX4_readGroup_17 : decode cX4_readGroup 17 = .ok (.invokevirtual 103, 3) := by decide +kernel
theorem dX4_readGroup_20 : decode cX4_readGroup 20 = .ok (.ifCond .eq 17, 3) := by decide +kernel
theorem dX4_readGroup_23 : decode cX4_readGroup 23 = .ok (.aload_n 2, 1) := by decide +kernel
theorem dX4_readGroup_24 : decode cX4_readGroup 24 = .ok (.aload_n 0, 1) := by decide +kernel
theorem dX4_readGroup_25 : decode cX4_readGroup 25 = .ok (.getfield 12, 3) := by decide +kernel
theorem dX4_readGroup_28 : decode cX4_readGroup 28 = .ok (.getfield 80, 3) := by decide +kernel
theorem dX4_readGroup_31 : decode cX4_readGroup 31 = .ok (.invokevirtual 107, 3) := by decide +kernel
theorem dX4_readGroup_34 : decode cX4_readGroup 34 = .ok (.ifCond .ne 11, 3) := by decide +kernel
theorem dX4_readGroup_37 : decode cX4_readGroup 37 = .ok (.aload_n 0, 1) := by decide +kernel
theorem dX4_readGroup_38 : decode cX4_readGroup 38 = .ok (.bipush 7, 2) := by decide +kernel
theorem dX4_readGroup_40 : decode cX4_readGroup 40 = .ok (.iload_n 3, 1) := by decide +kernel
theorem dX4_readGroup_41 : decode cX4_readGroup 41 = .ok (.invokevirtual 54, 3) := by decide +kernel
theorem dX4_readGroup_44 : decode cX4_readGroup 44 = .ok (.ireturn, 1) := by decide +kernel
theorem dX4_readGroup_45 : decode cX4_readGroup 45 = .ok (.aload_n 0, 1) := by decide +kernel
theorem dX4_readGroup_46 : decode cX4_readGroup 46 = .ok (.getfield 12, 3) := by decide +kernel
theorem dX4_readGroup_49 : decode cX4_readGroup 49 = .ok (.getfield 80, 3) := by decide +kernel
theorem dX4_readGroup_52 : decode cX4_readGroup 52 = .ok (.l2i, 1) := by decide +kernel
theorem dX4_readGroup_53 : decode cX4_readGroup 53 = .ok (.istore 5, 2) := by decide +kernel
theorem dX4_readGroup_55 : decode cX4_readGroup 55 = .ok (.aload_n 2, 1) := by decide +kernel
theorem dX4_readGroup_56 : decode cX4_readGroup 56 = .ok (.iload 5, 2) := by decide +kernel
theorem dX4_readGroup_58 : decode cX4_readGroup 58 = .ok (.invokevirtual 111, 3) := by decide +kernel
theorem dX4_readGroup_61 : decode cX4_readGroup 61 = .ok (.aload_n 2, 1) := by decide +kernel
theorem dX4_readGroup_62 : decode cX4_readGroup 62 = .ok (.aload_n 0, 1) := by decide +kernel
theorem dX4_readGroup_63 : decode cX4_readGroup 63 = .ok (.getfield 12, 3) := by decide +kernel
theorem dX4_readGroup_66 : decode cX4_readGroup 66 = .ok (.getfield 69, 3) := by decide +kernel
theorem dX4_readGroup_69 : decode cX4_readGroup 69 = .ok (.lconst 0, 1) := by decide +kernel
theorem dX4_readGroup_70 : decode cX4_readGroup 70 = .ok (.iconst 0, 1) := by decide +kernel
theorem dX4_readGroup_71 : decode cX4_readGroup 71 = .ok (.getstatic 115, 3) := by decide +kernel
theorem dX4_readGroup_74 : decode cX4_readGroup 74 = .ok (.invokevirtual 119, 3) := by decide +kernel
theorem dX4_readGroup_77 : decode cX4_readGroup 77 = .ok (.istore 6, 2) := by decide +kernel
theorem dX4_readGroup_79 : decode cX4_readGroup 79 = .ok (.aload_n 2, 1) := by decide +kernel
theorem dX4_readGroup_80 : decode cX4_readGroup 80 = .ok (.iload 6, 2) := by decide +kernel
theorem dX4_readGroup_82 : decode cX4_readGroup 82 = .ok (.invokevirtual 123, 3) := by decide +kernel
theorem dX4_readGroup_85 : decode cX4_readGroup 85 = .ok (.astore 7, 2) := by decide +kernel
theorem dX4_readGroup_87 : decode cX4_readGroup 87 = .ok (.aload_n 0, 1) := by decide +kernel
theorem dX4_readGroup_88 : decode cX4_readGroup 88 = .ok (.getfield 21, 3) := by decide +kernel
theorem dX4_readGroup_91 : decode cX4_readGroup 91 = .ok (.aload 7, 2) := by decide +kernel
theorem dX4_readGroup_93 : decode cX4_readGroup 93 = .ok (.invokevirtual 126, 3) := by decide +kernel
theorem dX4_readGroup_96 : decode cX4_readGroup 96 = .ok (.pop, 1) := by decide +kernel
theorem dX4_readGroup_97 : decode cX4_readGroup 97 = .ok (.iconst 0, 1) := by decide +kernel
theorem dX4_readGroup_98 : decode cX4_readGroup 98 = .ok (.istore 8, 2) := by decide +kernel
theorem dX4_readGroup_100 : decode cX4_readGroup 100 = .ok (.iload 8, 2) := by decide +kernel
theorem dX4_readGroup_102 : decode cX4_readGroup 102 = .ok (.iload 5, 2) := by decide +kernel
theorem dX4_readGroup_104 : decode cX4_readGroup 104 = .ok (.if_icmp .ge 36, 3) := by decide +kernel
theorem dX4_readGroup_107 : decode cX4_readGroup 107 = .ok (.aload_n 0, 1) := by decide +kernel
theorem dX4_readGroup_108 : decode cX4_readGroup 108 = .ok (.aload_n 1, 1) := by decide +kernel
theorem dX4_readGroup_109 : decode cX4_readGroup 109 = .ok (.aload_n 2, 1) := by decide +kernel
theorem dX4_readGroup_110 : decode cX4_readGroup 110 = .ok (.iload 4, 2) := by decide +kernel
theorem dX4_readGroup_112 : decode cX4_readGroup 112 = .ok (.iconst 1, 1) := by decide +kernel
theorem dX4_readGroup_113 : decode cX4_readGroup 113 = .ok (.iadd, 1) := by decide +kernel
theorem dX4_readGroup_114 : decode cX4_readGroup 114 = .ok (.invokevirtual 47, 3) := by decide +kernel
theorem dX4_readGroup_117 : decode cX4_readGroup 117 = .ok (.istore 9, 2) := by decide +kernel
theorem dX4_readGroup_119 : decode cX4_readGroup 119 = .ok (.iload 9, 2) := by decide +kernel
theorem dX4_readGroup_121 : decode cX4_readGroup 121 = .ok (.iconst (-1), 1) := by decide +kernel
theorem dX4_readGroup_122 : decode cX4_readGroup 122 = .ok (.if_icmp .ne 5, 3) := by decide +kernel
theorem dX4_readGroup_125 : decode cX4_readGroup 125 = .ok (.iconst (-1), 1) := by decide +kernel
theorem dX4_readGroup_126 : decode cX4_readGroup 126 = .ok (.ireturn, 1) := by decide +kernel
theorem dX4_readGroup_127 : decode cX4_readGroup 127 = .ok (.aload 7, 2) := by decide +kernel
theorem dX4_readGroup_129 : decode cX4_readGroup 129 = .ok (.iload 9, 2) := by decide +kernel
theorem dX4_readGroup_131 : decode cX4_readGroup 131 = .ok (.invokevirtual 130, 3) := by decide +kernel
theorem dX4_readGroup_134 : decode cX4_readGroup 134 = .ok (.iinc 8 1, 3) := by decide +kernel
theorem dX4_readGroup_137 : decode cX4_readGroup 137 = .ok (.goto (-37), 3) := by decide +kernel
theorem dX4_readGroup_140 : decode cX4_readGroup 140 = .ok (.iload 6, 2) := by decide +kernel
theorem dX4_readGroup_142 : decode cX4_readGroup 142 = .ok (.ireturn, 1) := by decide +kernel
theorem dX4_readRow_0 : decode cX4_readRow 0 = .ok (.iload_n 3, 1) := by decide +kernel
theorem dX4_readRow_1 : decode cX4_readRow 1 = .ok (.aload_n 0, 1) := by decide +kernel
theorem dX4_readRow_2 : decode cX4_readRow 2 = .ok (.getfield 12, 3) := by decide +kernel
theorem dX4_readRow_5 : decode cX4_readRow 5 = .ok (.getfield 135, 3) := by decide +kernel
theorem dX4_readRow_8 : decode cX4_readRow 8 = .ok (.iadd, 1) := by decide +kernel
theorem dX4_readRow_9 : decode cX4_readRow 9 = .ok (.istore 4, 2) := by decide +kernel
theorem dX4_readRow_11 : decode cX4_readRow 11 = .ok (.aload_n 0, 1) := by decide +kernel
theorem dX4_readRow_12 : decode cX4_readRow 12 = .ok (.getfield 12, 3) := by decide +kernel
theorem dX4_readRow_15 : decode cX4_readRow 15 = .ok (.getfield 80, 3) := by decide +kernel
theorem dX4_readRow_18 : decode cX4_readRow 18 = .ok (.l2i, 1) := by decide +kernel
theorem dX4_readRow_19 : decode cX4_readRow 19 = .ok (.istore 5, 2) := by decide +kernel
theorem dX4_readRow_21 : decode cX4_readRow 21 = .ok (.aload_n 0, 1) := by decide +kernel
theorem dX4_readRow_22 : decode cX4_readRow 22 = .ok (.getfield 12, 3) := by decide +kernel
theorem dX4_readRow_25 : decode cX4_readRow 25 = .ok (.getfield 69, 3) := by decide +kernel
theorem dX4_readRow_28 : decode cX4_readRow 28 = .ok (.iconst 5, 1) := by decide +kernel
theorem dX4_readRow_29 : decode cX4_readRow 29 = .ok (.if_icmp .ne 16, 3) := by decide +kernel
theorem dX4_readRow_32 : decode cX4_readRow 32 = .ok (.aload_n 1, 1) := by decide +kernel
theorem dX4_readRow_33 : decode cX4_readRow 33 = .ok (.iload 4, 2) := by decide +kernel
theorem dX4_readRow_35 : decode cX4_readRow 35 = .ok (.aload_n 0, 1) := by decide +kernel
theorem dX4_readRow_36 : decode cX4_readRow 36 = .ok (.getfield 38, 3) := by decide +kernel
theorem dX4_readRow_39 : decode cX4_readRow 39 = .ok (.invokestatic 138, 3) := by decide +kernel
theorem dX4_readRow_42 : decode cX4_readRow 42 = .ok (.goto 4, 3) := by decide +kernel
theorem dX4_readRow_45 : decode cX4_readRow 45 = .ok (.iconst (-1), 1) := by decide +kernel
theorem dX4_readRow_46 : decode cX4_readRow 46 = .ok (.istore 6, 2) := by decide +kernel
theorem dX4_readRow_48 : decode cX4_readRow 48 = .ok (.iload 6, 2) := by decide +kernel
theorem dX4_readRow_50 : decode cX4_readRow 50 = .ok (.iconst (-1), 1) := by decide +kernel
theorem dX4_readRow_51 : decode cX4_readRow 51 = .ok (.if_icmp .eq 11, 3) := by decide +kernel
theorem dX4_readRow_54 : decode cX4_readRow 54 = .ok (.aload_n 0, 1) := by decide +kernel
theorem dX4_readRow_55 : decode cX4_readRow 55 = .ok (.iconst 3, 1) := by decide +kernel
theorem dX4_readRow_56 : decode cX4_readRow 56 = .ok (.iload 6, 2) := by decide +kernel
theorem dX4_readRow_58 : decode cX4_readRow 58 = .ok (.invokevirtual 54, 3) := by decide +kernel
theorem dX4_readRow_61 : decode cX4_readRow 61 = .ok (.ireturn, 1) := by decide +kernel
theorem dX4_readRow_62 : decode cX4_readRow 62 = .ok (.aload_n 2, 1) := by decide +kernel
theorem dX4_readRow_63 : decode cX4_readRow 63 = .ok (.iload 5, 2) := by decide +kernel
theorem dX4_readRow_65 : decode cX4_readRow 65 = .ok (.invokevirtual 103, 3) := by decide +kernel
theorem dX4_readRow_68 : decode cX4_readRow 68 = .ok (.ifCond .ne 11, 3) := by decide +kernel
theorem dX4_readRow_71 : decode cX4_readRow 71 = .ok (.aload_n 0, 1) := by decide +kernel
theorem dX4_readRow_72 : decode cX4_readRow 72 = .ok (.bipush 7, 2) := by decide +kernel
theorem dX4_readRow_74 : decode cX4_readRow 74 = .ok (.iload_n 3, 1) := by decide +kernel
theorem dX4_readRow_75 : decode cX4_readRow 75 = .ok (.invokevirtual 54, 3) := by decide +kernel
theorem dX4_readRow_78 : decode cX4_readRow 78 = .ok (.ireturn, 1) := by decide +kernel
theorem dX4_readRow_79 : decode cX4_readRow 79 = .ok (.aload_n 2, 1) := by decide +kernel
theorem dX4_readRow_80 : decode cX4_readRow 80 = .ok (.aload_n 0, 1) := by decide +kernel
theorem dX4_readRow_81 : decode cX4_readRow 81 = .ok (.getfield 12, 3) := by decide +kernel
theorem dX4_readRow_84 : decode cX4_readRow 84 = .ok (.getfield 69, 3) := by decide +kernel
theorem dX4_readRow_87 : decode cX4_readRow 87 = .ok (.lconst 0, 1) := by decide +kernel
theorem dX4_readRow_88 : decode cX4_readRow 88 = .ok (.aload_n 0, 1) := by decide +kernel
theorem dX4_readRow_89 : decode cX4_readRow 89 = .ok (.getfield 12, 3) := by decide +kernel
theorem dX4_readRow_92 : decode cX4_readRow 92 = .ok (.getfield 144, 3) := by decide +kernel
theorem dX4_readRow_95 : decode cX4_readRow 95 = .ok (.aload_n 1, 1) := by decide +kernel
theorem dX4_readRow_96 : decode cX4_readRow 96 = .ok (.iload 4, 2) := by decide +kernel
theorem dX4_readRow_98 : decode cX4_readRow 98 = .ok (.iload 5, 2) := by decide +kernel
theorem dX4_readRow_100 : decode cX4_readRow 100 = .ok (.invokevirtual 147, 3) := by decide +kernel
theorem dX4_readRow_103 : decode cX4_readRow 103 = .ok (.invokevirtual 119, 3) := by decide +kernel
theorem dX4_readRow_106 : decode cX4_readRow 106 = .ok (.ireturn, 1) := by decide +kernel
theorem dX4_readTime_0 : decode cX4_readTime 0 = .ok (.iload_n 3, 1) := by decide +kernel
theorem dX4_readTime_1 : decode cX4_readTime 1 = .ok (.aload_n 0, 1) := by decide +kernel
theorem dX4_readTime_2 : decode cX4_readTime 2 = .ok (.getfield 12, 3) := by decide +kernel
theorem dX4_readTime_5 : decode cX4_readTime 5 = .ok (.getfield 135, 3) := by decide +kernel
theorem dX4_readTime_8 : decode cX4_readTime 8 = .ok (.iadd, 1) := by decide +kernel
theorem dX4_readTime_9 : decode cX4_readTime 9 = .ok (.istore 4, 2) := by decide +kernel
theorem dX4_readTime_11 : decode cX4_readTime 11 = .ok (.lconst 0, 1) := by decide +kernel
theorem dX4_readTime_12 : decode cX4_readTime 12 = .ok (.lstore 5, 2) := by decide +kernel
theorem dX4_readTime_14 : decode cX4_readTime 14 = .ok (.lconst 0, 1) := by decide +kernel
theorem dX4_readTime_15 : decode cX4_readTime 15 = .ok (.lstore 7, 2) := by decide +kernel
theorem dX4_readTime_17 : decode cX4_readTime 17 = .ok (.aload_n 0, 1) := by decide +kernel
theorem dX4_readTime_18 : decode cX4_readTime 18 = .ok (.getfield 12, 3) := by decide +kernel
theorem dX4_readTime_21 : decode cX4_readTime 21 = .ok (.getfield 80, 3) := by decide +kernel
theorem dX4_readTime_24 : decode cX4_readTime 24 = .ok (.ldc2_w 151, 3) := by decide +kernel
theorem dX4_readTime_27 : decode cX4_readTime 27 = .ok (.lcmp, 1) := by decide +kernel
theorem dX4_readTime_28 : decode cX4_readTime 28 = .ok (.ifCond .ne 15, 3) := by decide +kernel
theorem dX4_readTime_31 : decode cX4_readTime 31 = .ok (.aload_n 1, 1) := by decide +kernel
theorem dX4_readTime_32 : decode cX4_readTime 32 = .ok (.iload 4, 2) := by decide +kernel
theorem dX4_readTime_34 : decode cX4_readTime 34 = .ok (.iconst 4, 1) := by decide +kernel
theorem dX4_readTime_35 : decode cX4_readTime 35 = .ok (.invokevirtual 153, 3) := by decide +kernel
theorem dX4_readTime_38 : decode cX4_readTime 38 = .ok (.lstore 5, 2) := by decide +kernel
theorem dX4_readTime_40 : decode cX4_readTime 40 = .ok (.goto 90, 3) := by decide +kernel
theorem dX4_readTime_43 : decode cX4_readTime 43 = .ok (.aload_n 0, 1) := by decide +kernel
theorem dX4_readTime_44 : decode cX4_readTime 44 = .ok (.getfield 12, 3) := by decide +kernel
theorem dX4_readTime_47 : decode cX4_readTime 47 = .ok (.getfield 80, 3) := by decide +kernel
theorem dX4_readTime_50 : decode cX4_readTime 50 = .ok (.ldc2_w 157, 3) := by decide +kernel
theorem dX4_readTime_53 : decode cX4_readTime 53 = .ok (.lcmp, 1) := by decide +kernel
theorem dX4_readTime_54 : decode cX4_readTime 54 = .ok (.ifCond .ne 31, 3) := by decide +kernel
theorem dX4_readTime_57 : decode cX4_readTime 57 = .ok (.aload_n 1, 1) := by decide +kernel
theorem dX4_readTime_58 : decode cX4_readTime 58 = .ok (.iload 4, 2) := by decide +kernel
theorem dX4_readTime_60 : decode cX4_readTime 60 = .ok (.bipush 8, 2) := by decide +kernel
theorem dX4_readTime_62 : decode cX4_readTime 62 = .ok (.invokevirtual 153, 3) := by decide +kernel
theorem dX4_readTime_65 : decode cX4_readTime 65 = .ok (.lstore 9, 2) := by decide +kernel
theorem dX4_readTime_67 : decode cX4_readTime 67 = .ok (.lload 9, 2) := by decide +kernel
theorem dX4_readTime_69 : decode cX4_readTime 69 = .ok (.ldc2_w 159, 3) := by decide +kernel
theorem dX4_readTime_72 : decode cX4_readTime 72 = .ok (.land, 1) := by decide +kernel
theorem dX4_readTime_73 : decode cX4_readTime 73 = .ok (.lstore 5, 2) := by decide +kernel
theorem dX4_readTime_75 : decode cX4_readTime 75 = .ok (.lload 9, 2) := by decide +kernel
theorem dX4_readTime_77 : decode cX4_readTime 77 = .ok (.bipush 34, 2) := by decide +kernel
theorem dX4_readTime_79 : decode cX4_readTime 79 = .ok (.lushr, 1) := by decide +kernel
theorem dX4_readTime_80 : decode cX4_readTime 80 = .ok (.lstore 7, 2) := by decide +kernel
theorem dX4_readTime_82 : decode cX4_readTime 82 = .ok (.goto 48, 3) := by decide +kernel
theorem dX4_readTime_85 : decode cX4_readTime 85 = .ok (.aload_n 0, 1) := by decide +kernel
theorem dX4_readTime_86 : decode cX4_readTime 86 = .ok (.getfield 12, 3) := by decide +kernel
theorem dX4_readTime_89 : decode cX4_readTime 89 = .ok (.getfield 80, 3) := by decide +kernel
theorem dX4_readTime_92 : decode cX4_readTime 92 = .ok (.ldc2_w 161, 3) := by decide +kernel
theorem dX4_readTime_95 : decode cX4_readTime 95 = .ok (.lcmp, 1) := by decide +kernel
theorem dX4_readTime_96 : decode cX4_readTime 96 = .ok (.ifCond .ne 27, 3) := by decide +kernel
theorem dX4_readTime_99 : decode cX4_readTime 99 = .ok (.aload_n 1, 1) := by decide +kernel
theorem dX4_readTime_100 : decode cX4_readTime 100 = .ok (.iload 4, 2) := by decide +kernel
theorem dX4_readTime_102 : decode cX4_readTime 102 = .ok (.iconst 4, 1) := by decide +kernel
theorem dX4_readTime_103 : decode cX4_readTime 103 = .ok (.invokevirtual 153, 3) := by decide +kernel
theorem dX4_readTime_106 : decode cX4_readTime 106 = .ok (.lstore 7, 2) := by decide +kernel
theorem dX4_readTime_108 : decode cX4_readTime 108 = .ok (.aload_n 1, 1) := by decide +kernel
theorem dX4_readTime_109 : decode cX4_readTime 109 = .ok (.iload 4, 2) := by decide +kernel
theorem dX4_readTime_111 : decode cX4_readTime 111 = .ok (.iconst 4, 1) := by decide +kernel
theorem dX4_readTime_112 : decode cX4_readTime 112 = .ok (.iadd, 1) := by decide +kernel
theorem dX4_readTime_113 : decode cX4_readTime 113 = .ok (.bipush 8, 2) := by decide +kernel
theorem dX4_readTime_115 : decode cX4_readTime 115 = .ok (.invokevirtual 153, 3) := by decide +kernel
theorem dX4_readTime_118 : decode cX4_readTime 118 = .ok (.lstore 5, 2) := by decide +kernel
theorem dX4_readTime_120 : decode cX4_readTime 120 = .ok (.goto 10, 3) := by decide +kernel
theorem dX4_readTime_123 : decode cX4_readTime 123 = .ok (.aload_n 0, 1) := by decide +kernel
theorem dX4_readTime_124 : decode cX4_readTime 124 = .ok (.iconst 4, 1) := by decide +kernel
theorem dX4_readTime_125 : decode cX4_readTime 125 = .ok (.iload_n 3, 1) := by decide +kernel
theorem dX4_readTime_126 : decode cX4_readTime 126 = .ok (.invokevirtual 54, 3) := by decide +kernel
theorem dX4_readTime_129 : decode cX4_readTime 129 = .ok (.ireturn, 1) := by decide +kernel
theorem dX4_readTime_130 : decode cX4_readTime 130 = .ok (.lload 7, 2) := by decide +kernel
theorem dX4_readTime_132 : decode cX4_readTime 132 = .ok (.ldc2_w 163, 3) := by decide +kernel
theorem dX4_readTime_135 : decode cX4_readTime 135 = .ok (.lcmp, 1) := by decide +kernel
theorem dX4_readTime_136 : decode cX4_readTime 136 = .ok (.ifCond .le 10, 3) := by decide +kernel
theorem dX4_readTime_139 : decode cX4_readTime 139 = .ok (.aload_n 0, 1) := by decide +kernel
theorem dX4_readTime_140 : decode cX4_readTime 140 = .ok (.iconst 4, 1) := by decide +kernel
theorem dX4_readTime_141 : decode cX4_readTime 141 = .ok (.iload_n 3, 1) := by decide +kernel
theorem dX4_readTime_142 : decode cX4_readTime 142 = .ok (.invokevirtual 54, 3) := by decide +kernel
theorem dX4_readTime_145 : decode cX4_readTime 145 = .ok (.ireturn, 1) := by decide +kernel
theorem dX4_readTime_146 : decode cX4_readTime 146 = .ok (.aload_n 0, 1) := by decide +kernel
theorem dX4_readTime_147 : decode cX4_readTime 147 = .ok (.aload_n 2, 1) := by decide +kernel
theorem dX4_readTime_148 : decode cX4_readTime 148 = .ok (.iload_n 3, 1) := by decide +kernel
theorem dX4_readTime_149 : decode cX4_readTime 149 = .ok (.bipush 10, 2) := by decide +kernel
theorem dX4_readTime_151 : decode cX4_readTime 151 = .ok (.lload 5, 2) := by decide +kernel
theorem dX4_readTime_153 : decode cX4_readTime 153 = .ok (.lload 7, 2) := by decide +kernel
theorem dX4_readTime_155 : decode cX4_readTime 155 = .ok (.l2i, 1) := by decide +kernel
theorem dX4_readTime_156 : decode cX4_readTime 156 = .ok (.invokevirtual 165, 3) := by decide +kernel
theorem dX4_readTime_159 : decode cX4_readTime 159 = .ok (.ireturn, 1) := by decide +kernel
theorem dX4_readReference_0 : decode cX4_readReference 0 = .ok (.iload_n 2, 1) := by decide +kernel
theorem dX4_readReference_1 : decode cX4_readReference 1 = .ok (.aload_n 0, 1) := by decide +kernel
theorem dX4_readReference_2 : decode cX4_readReference 2 = .ok (.getfield 12, 3) := by decide +kernel
theorem dX4_readReference_5 : decode cX4_readReference 5 = .ok (.getfield 135, 3) := by decide +kernel
theorem dX4_readReference_8 : decode cX4_readReference 8 = .ok (.iadd, 1) := by decide +kernel
theorem dX4_readReference_9 : decode cX4_readReference 9 = .ok (.istore_n 3, 1) := by decide +kernel
theorem dX4_readReference_10 : decode cX4_readReference 10 = .ok (.aload_n 0, 1) := by decide +kernel
theorem dX4_readReference_11 : decode cX4_readReference 11 = .ok (.getfield 38, 3) := by decide +kernel
theorem dX4_readReference_14 : decode cX4_readReference 14 = .ok (.iload_n 3, 1) := by decide +kernel
theorem dX4_readReference_15 : decode cX4_readReference 15 = .ok (.isub, 1) := by decide +kernel
theorem dX4_readReference_16 : decode cX4_readReference 16 = .ok (.istore 4, 2) := by decide +kernel
theorem dX4_readReference_18 : decode cX4_readReference 18 = .ok (.iload 4, 2) := by decide +kernel
theorem dX4_readReference_20 : decode cX4_readReference 20 = .ok (.ifCond .ne 10, 3) := by decide +kernel
theorem dX4_readReference_23 : decode cX4_readReference 23 = .ok (.aload_n 0, 1) := by decide +kernel
theorem dX4_readReference_24 : decode cX4_readReference 24 = .ok (.iconst 5, 1) := by decide +kernel
theorem dX4_readReference_25 : decode cX4_readReference 25 = .ok (.iload_n 2, 1) := by decide +kernel
theorem dX4_readReference_26 : decode cX4_readReference 26 = .ok (.invokevirtual 54, 3) := by decide +kernel
theorem dX4_readReference_29 : decode cX4_readReference 29 = .ok (.ireturn, 1) := by decide +kernel
theorem dX4_readReference_30 : decode cX4_readReference 30 = .ok (.aload_n 0, 1) := by decide +kernel
theorem dX4_readReference_31 : decode cX4_readReference 31 = .ok (.getfield 12, 3) := by decide +kernel
theorem dX4_readReference_34 : decode cX4_readReference 34 = .ok (.aload_n 1, 1) := by decide +kernel
theorem dX4_readReference_35 : decode cX4_readReference 35 = .ok (.iload_n 3, 1) := by decide +kernel
theorem dX4_readReference_36 : decode cX4_readReference 36 = .ok (.invokevirtual 65, 3) := by decide +kernel
theorem dX4_readReference_39 : decode cX4_readReference 39 = .ok (.aload_n 0, 1) := by decide +kernel
theorem dX4_readReference_40 : decode cX4_readReference 40 = .ok (.getfield 12, 3) := by decide +kernel
theorem dX4_readReference_43 : decode cX4_readReference 43 = .ok (.getfield 69, 3) := by decide +kernel
theorem dX4_readReference_46 : decode cX4_readReference 46 = .ok (.iconst 2, 1) := by decide +kernel
theorem dX4_readReference_47 : decode cX4_readReference 47 = .ok (.if_icmp .ne 17, 3) := by decide +kernel
theorem dX4_readReference_50 : decode cX4_readReference 50 = .ok (.aload_n 0, 1) := by decide +kernel
theorem dX4_readReference_51 : decode cX4_readReference 51 = .ok (.getfield 12, 3) := by decide +kernel
theorem dX4_readReference_54 : decode cX4_readReference 54 = .ok (.invokevirtual 72, 3) := by decide +kernel
theorem dX4_readReference_57 : decode cX4_readReference 57 = .ok (.iload 4, 2) := by decide +kernel
theorem dX4_readReference_59 : decode cX4_readReference 59 = .ok (.i2l, 1) := by decide +kernel
theorem dX4_readReference_60 : decode cX4_readReference 60 = .ok (.lcmp, 1) := by decide +kernel
theorem dX4_readReference_61 : decode cX4_readReference 61 = .ok (.ifCond .eq 10, 3) := by decide +kernel
theorem dX4_readReference_64 : decode cX4_readReference 64 = .ok (.aload_n 0, 1) := by decide +kernel
theorem dX4_readReference_65 : decode cX4_readReference 65 = .ok (.iconst 5, 1) := by decide +kernel
theorem dX4_readReference_66 : decode cX4_readReference 66 = .ok (.iload_n 2, 1) := by decide +kernel
theorem dX4_readReference_67 : decode cX4_readReference 67 = .ok (.invokevirtual 54, 3) := by decide +kernel
theorem dX4_readReference_70 : decode cX4_readReference 70 = .ok (.ireturn, 1) := by decide +kernel
theorem dX4_readReference_71 : decode cX4_readReference 71 = .ok (.aload_n 0, 1) := by decide +kernel
theorem dX4_readReference_72 : decode cX4_readReference 72 = .ok (.aload_n 1, 1) := by decide +kernel
theorem dX4_readReference_73 : decode cX4_readReference 73 = .ok (.iload_n 3, 1) := by decide +kernel
theorem dX4_readReference_74 : decode cX4_readReference 74 = .ok (.invokevirtual 169, 3) := by decide +kernel
theorem dX4_readReference_77 : decode cX4_readReference 77 = .ok (.lstore 5, 2) := by decide +kernel
theorem dX4_readReference_79 : decode cX4_readReference 79 = .ok (.lload 5, 2) := by decide +kernel
theorem dX4_readReference_81 : decode cX4_readReference 81 = .ok (.lconst 0, 1) := by decide +kernel
theorem dX4_readReference_82 : decode cX4_readReference 82 = .ok (.lcmp, 1) := by decide +kernel
theorem dX4_readReference_83 : decode cX4_readReference 83 = .ok (.ifCond .lt 17, 3) := by decide +kernel
theorem dX4_readReference_86 : decode cX4_readReference 86 = .ok (.lload 5, 2) := by decide +kernel
theorem dX4_readReference_88 : decode cX4_readReference 88 = .ok (.aload_n 0, 1) := by decide +kernel
theorem dX4_readReference_89 : decode cX4_readReference 89 = .ok (.getfield 21, 3) := by decide +kernel
theorem dX4_readReference_92 : decode cX4_readReference 92 = .ok (.invokevirtual 173, 3) := by decide +kernel
theorem dX4_readReference_95 : decode cX4_readReference 95 = .ok (.i2l, 1) := by decide +kernel
theorem dX4_readReference_96 : decode cX4_readReference 96 = .ok (.lcmp, 1) := by decide +kernel
theorem dX4_readReference_97 : decode cX4_readReference 97 = .ok (.ifCond .lt 10, 3) := by decide +kernel
theorem dX4_readReference_100 : decode cX4_readReference 100 = .ok (.aload_n 0, 1) := by decide +kernel
theorem dX4_readReference_101 : decode cX4_readReference 101 = .ok (.iconst 5, 1) := by decide +kernel
theorem dX4_readReference_102 : decode cX4_readReference 102 = .ok (.iload_n 2, 1) := by decide +kernel
theorem dX4_readReference_103 : decode cX4_readReference 103 = .ok (.invokevirtual 54, 3) := by decide +kernel
theorem dX4_readReference_106 : decode cX4_readReference 106 = .ok (.ireturn, 1) := by decide +kernel
theorem dX4_readReference_107 : decode cX4_readReference 107 = .ok (.aload_n 0, 1) := by decide +kernel
theorem dX4_readReference_108 : decode cX4_readReference 108 = .ok (.getfield 21, 3) := by decide +kernel
theorem dX4_readReference_111 : decode cX4_readReference 111 = .ok (.lload 5, 2) := by decide +kernel
theorem dX4_readReference_113 : decode cX4_readReference 113 = .ok (.l2i, 1) := by decide +kernel
theorem dX4_readReference_114 : decode cX4_readReference 114 = .ok (.invokevirtual 174, 3) := by decide +kernel
theorem dX4_readReference_117 : decode cX4_readReference 117 = .ok (.checkcast 131, 3) := by decide +kernel
theorem dX4_readReference_120 : decode cX4_readReference 120 = .ok (.getfield 178, 3) := by decide +kernel
theorem dX4_readReference_123 : decode cX4_readReference 123 = .ok (.ireturn, 1) := by decide +kernel
theorem dX4_readPlain_0 : decode cX4_readPlain 0 = .ok (.aload_n 0, 1) := by decide +kernel
theorem dX4_readPlain_1 : decode cX4_readPlain 1 = .ok (.getfield 12, 3) := by decide +kernel
theorem dX4_readPlain_4 : decode cX4_readPlain 4 = .ok (.getfield 69, 3) := by decide +kernel
theorem dX4_readPlain_7 : decode cX4_readPlain 7 = .ok (.iconst 1, 1) := by decide +kernel
theorem dX4_readPlain_8 : decode cX4_readPlain 8 = .ok (.if_icmp .ne 21, 3) := by decide +kernel
theorem dX4_readPlain_11 : decode cX4_readPlain 11 = .ok (.aload_n 0, 1) := by decide +kernel
theorem dX4_readPlain_12 : decode cX4_readPlain 12 = .ok (.aload_n 2, 1) := by decide +kernel
theorem dX4_readPlain_13 : decode cX4_readPlain 13 = .ok (.iload_n 3, 1) := by decide +kernel
theorem dX4_readPlain_14 : decode cX4_readPlain 14 = .ok (.iconst 1, 1) := by decide +kernel
theorem dX4_readPlain_15 : decode cX4_readPlain 15 = .ok (.lconst 0, 1) := by decide +kernel
theorem dX4_readPlain_16 : decode cX4_readPlain 16 = .ok (.aload_n 1, 1) := by decide +kernel
theorem dX4_readPlain_17 : decode cX4_readPlain 17 = .ok (.iload_n 3, 1) := by decide +kernel
theorem dX4_readPlain_18 : decode cX4_readPlain 18 = .ok (.invokevirtual 181, 3) := by decide +kernel
theorem dX4_readPlain_21 : decode cX4_readPlain 21 = .ok (.sipush 194, 3) := by decide +kernel
theorem dX4_readPlain_24 : decode cX4_readPlain 24 = .ok (.isub, 1) := by decide +kernel
theorem dX4_readPlain_25 : decode cX4_readPlain 25 = .ok (.invokevirtual 165, 3) := by decide +kernel
theorem dX4_readPlain_28 : decode cX4_readPlain 28 = .ok (.ireturn, 1) := by decide +kernel
theorem dX4_readPlain_29 : decode cX4_readPlain 29 = .ok (.aload_n 0, 1) := by decide +kernel
theorem dX4_readPlain_30 : decode cX4_readPlain 30 = .ok (.getfield 12, 3) := by decide +kernel
theorem dX4_readPlain_33 : decode cX4_readPlain 33 = .ok (.getfield 69, 3) := by decide +kernel
theorem dX4_readPlain_36 : decode cX4_readPlain 36 = .ok (.iconst 2, 1) := by decide +kernel
theorem dX4_readPlain_37 : decode cX4_readPlain 37 = .ok (.if_icmp .ne 44, 3) := by decide +kernel
theorem dX4_readPlain_40 : decode cX4_readPlain 40 = .ok (.aload_n 0, 1) := by decide +kernel
theorem dX4_readPlain_41 : decode cX4_readPlain 41 = .ok (.aload_n 1, 1) := by decide +kernel
theorem dX4_readPlain_42 : decode cX4_readPlain 42 = .ok (.iload_n 3, 1) := by decide +kernel
theorem dX4_readPlain_43 : decode cX4_readPlain 43 = .ok (.invokevirtual 169, 3) := by decide +kernel
theorem dX4_readPlain_46 : decode cX4_readPlain 46 = .ok (.lstore 4, 2) := by decide +kernel
theorem dX4_readPlain_48 : decode cX4_readPlain 48 = .ok (.aload_n 0, 1) := by decide +kernel
theorem dX4_readPlain_49 : decode cX4_readPlain 49 = .ok (.aload_n 2, 1) := by decide +kernel
theorem dX4_readPlain_50 : decode cX4_readPlain 50 = .ok (.iload_n 3, 1) := by decide +kernel
theorem dX4_readPlain_51 : decode cX4_readPlain 51 = .ok (.iconst 2, 1) := by decide +kernel
theorem dX4_readPlain_52 : decode cX4_readPlain 52 = .ok (.lload 4, 2) := by decide +kernel
theorem dX4_readPlain_54 : decode cX4_readPlain 54 = .ok (.lload 4, 2) := by decide +kernel
theorem dX4_readPlain_56 : decode cX4_readPlain 56 = .ok (.lconst 0, 1) := by decide +kernel
theorem dX4_readPlain_57 : decode cX4_readPlain 57 = .ok (.lcmp, 1) := by decide +kernel
theorem dX4_readPlain_58 : decode cX4_readPlain 58 = .ok (.ifCond .ge 18, 3) := by decide +kernel
theorem dX4_readPlain_61 : decode cX4_readPlain 61 = .ok (.aload_n 1, 1) := by decide +kernel
theorem dX4_readPlain_62 : decode cX4_readPlain 62 = .ok (.iload_n 3, 1) := by decide +kernel
theorem dX4_readPlain_63 : decode cX4_readPlain 63 = .ok (.invokevirtual 181, 3) := by decide +kernel
theorem dX4_readPlain_66 : decode cX4_readPlain 66 = .ok (.sipush 207, 3) := by decide +kernel
theorem dX4_readPlain_69 : decode cX4_readPlain 69 = .ok (.if_icmp .ne 7, 3) := by decide +kernel
theorem dX4_readPlain_72 : decode cX4_readPlain 72 = .ok (.iconst 1, 1) := by decide +kernel
theorem dX4_readPlain_73 : decode cX4_readPlain 73 = .ok (.goto 4, 3) := by decide +kernel
theorem dX4_readPlain_76 : decode cX4_readPlain 76 = .ok (.iconst 0, 1) := by decide +kernel
theorem dX4_readPlain_77 : decode cX4_readPlain 77 = .ok (.invokevirtual 165, 3) := by decide +kernel
theorem dX4_readPlain_80 : decode cX4_readPlain 80 = .ok (.ireturn, 1) := by decide +kernel
theorem dX4_readPlain_81 : decode cX4_readPlain 81 = .ok (.aload_n 0, 1) := by decide +kernel
theorem dX4_readPlain_82 : decode cX4_readPlain 82 = .ok (.aload_n 2, 1) := by decide +kernel
theorem dX4_readPlain_83 : decode cX4_readPlain 83 = .ok (.iload_n 3, 1) := by decide +kernel
theorem dX4_readPlain_84 : decode cX4_readPlain 84 = .ok (.aload_n 0, 1) := by decide +kernel
theorem dX4_readPlain_85 : decode cX4_readPlain 85 = .ok (.getfield 12, 3) := by decide +kernel
theorem dX4_readPlain_88 : decode cX4_readPlain 88 = .ok (.getfield 69, 3) := by decide +kernel
theorem dX4_readPlain_91 : decode cX4_readPlain 91 = .ok (.aload_n 1, 1) := by decide +kernel
theorem dX4_readPlain_92 : decode cX4_readPlain 92 = .ok (.iload_n 3, 1) := by decide +kernel
theorem dX4_readPlain_93 : decode cX4_readPlain 93 = .ok (.iconst 1, 1) := by decide +kernel
theorem dX4_readPlain_94 : decode cX4_readPlain 94 = .ok (.iadd, 1) := by decide +kernel
theorem dX4_readPlain_95 : decode cX4_readPlain 95 = .ok (.aload_n 0, 1) := by decide +kernel
theorem dX4_readPlain_96 : decode cX4_readPlain 96 = .ok (.getfield 12, 3) := by decide +kernel
theorem dX4_readPlain_99 : decode cX4_readPlain 99 = .ok (.getfield 80, 3) := by decide +kernel
theorem dX4_readPlain_102 : decode cX4_readPlain 102 = .ok (.l2i, 1) := by decide +kernel
theorem dX4_readPlain_103 : decode cX4_readPlain 103 = .ok (.invokevirtual 153, 3) := by decide +kernel
theorem dX4_readPlain_106 : decode cX4_readPlain 106 = .ok (.iconst 0, 1) := by decide +kernel
theorem dX4_readPlain_107 : decode cX4_readPlain 107 = .ok (.invokevirtual 165, 3) := by decide +kernel
theorem dX4_readPlain_110 : decode cX4_readPlain 110 = .ok (.ireturn, 1) := by decide +kernel
theorem dX4_readInteger_0 : decode cX4_readInteger 0 = .ok (.aload_n 1, 1) := by decide +kernel
theorem dX4_readInteger_1 : decode cX4_readInteger 1 = .ok (.iload_n 2, 1) := by decide +kernel
theorem dX4_readInteger_2 : decode cX4_readInteger 2 = .ok (.invokevirtual 181, 3) := by decide +kernel
theorem dX4_readInteger_5 : decode cX4_readInteger 5 = .ok (.istore_n 3, 1) := by decide +kernel
theorem dX4_readInteger_6 : decode cX4_readInteger 6 = .ok (.aload_n 0, 1) := by decide +kernel
theorem dX4_readInteger_7 : decode cX4_readInteger 7 = .ok (.getfield 12, 3) := by decide +kernel
theorem dX4_readInteger_10 : decode cX4_readInteger 10 = .ok (.getfield 80, 3) := by decide +kernel
theorem dX4_readInteger_13 : decode cX4_readInteger 13 = .ok (.l2i, 1) := by decide +kernel
theorem dX4_readInteger_14 : decode cX4_readInteger 14 = .ok (.istore 4, 2) := by decide +kernel
theorem dX4_readInteger_16 : decode cX4_readInteger 16 = .ok (.iload 4, 2) := by decide +kernel
theorem dX4_readInteger_18 : decode cX4_readInteger 18 = .ok (.ifCond .ne 7, 3) := by decide +kernel
theorem dX4_readInteger_21 : decode cX4_readInteger 21 = .ok (.iload_n 3, 1) := by decide +kernel
theorem dX4_readInteger_22 : decode cX4_readInteger 22 = .ok (.i2b, 1) := by decide +kernel
theorem dX4_readInteger_23 : decode cX4_readInteger 23 = .ok (.i2l, 1) := by decide +kernel
theorem dX4_readInteger_24 : decode cX4_readInteger 24 = .ok (.lreturn, 1) := by decide +kernel
theorem dX4_readInteger_25 : decode cX4_readInteger 25 = .ok (.aload_n 1, 1) := by decide +kernel
theorem dX4_readInteger_26 : decode cX4_readInteger 26 = .ok (.iload_n 2, 1) := by decide +kernel
theorem dX4_readInteger_27 : decode cX4_readInteger 27 = .ok (.iconst 1, 1) := by decide +kernel
theorem dX4_readInteger_28 : decode cX4_readInteger 28 = .ok (.iadd, 1) := by decide +kernel
theorem dX4_readInteger_29 : decode cX4_readInteger 29 = .ok (.iload 4, 2) := by decide +kernel
theorem dX4_readInteger_31 : decode cX4_readInteger 31 = .ok (.invokevirtual 153, 3) := by decide +kernel
theorem dX4_readInteger_34 : decode cX4_readInteger 34 = .ok (.lstore 5, 2) := by decide +kernel
theorem dX4_readInteger_36 : decode cX4_readInteger 36 = .ok (.bipush 64, 2) := by decide +kernel
theorem dX4_readInteger_38 : decode cX4_readInteger 38 = .ok (.bipush 8, 2) := by decide +kernel
theorem dX4_readInteger_40 : decode cX4_readInteger 40 = .ok (.iload 4, 2) := by decide +kernel
theorem dX4_readInteger_42 : decode cX4_readInteger 42 = .ok (.imul, 1) := by decide +kernel
theorem dX4_readInteger_43 : decode cX4_readInteger 43 = .ok (.isub, 1) := by decide +kernel
theorem dX4_readInteger_44 : decode cX4_readInteger 44 = .ok (.istore 7, 2) := by decide +kernel
theorem dX4_readInteger_46 : decode cX4_readInteger 46 = .ok (.iload_n 3, 1) := by decide +kernel
theorem dX4_readInteger_47 : decode cX4_readInteger 47 = .ok (.sipush 208, 3) := by decide +kernel
theorem dX4_readInteger_50 : decode cX4_readInteger 50 = .ok (.if_icmp .lt 14, 3) := by decide +kernel
theorem dX4_readInteger_53 : decode cX4_readInteger 53 = .ok (.lload 5, 2) := by decide +kernel
theorem dX4_readInteger_55 : decode cX4_readInteger 55 = .ok (.iload 7, 2) := by decide +kernel
theorem dX4_readInteger_57 : decode cX4_readInteger 57 = .ok (.lshl, 1) := by decide +kernel
theorem dX4_readInteger_58 : decode cX4_readInteger 58 = .ok (.iload 7, 2) := by decide +kernel
theorem dX4_readInteger_60 : decode cX4_readInteger 60 = .ok (.lshr, 1) := by decide +kernel
theorem dX4_readInteger_61 : decode cX4_readInteger 61 = .ok (.goto 5, 3) := by decide +kernel
theorem dX4_readInteger_64 : decode cX4_readInteger 64 = .ok (.lload 5, 2) := by decide +kernel
theorem dX4_readInteger_66 : decode cX4_readInteger 66 = .ok (.lreturn, 1) := by decide +kernel
theorem dX4_keepPlain_0 : decode cX4_keepPlain 0 = .ok (.aload_n 1, 1) := by decide +kernel
theorem dX4_keepPlain_1 : decode cX4_keepPlain 1 = .ok (.iconst 0, 1) := by decide +kernel
theorem dX4_keepPlain_2 : decode cX4_keepPlain 2 = .ok (.invokevirtual 103, 3) := by decide +kernel
theorem dX4_keepPlain_5 : decode cX4_keepPlain 5 = .ok (.ifCond .eq 18, 3) := by decide +kernel
theorem dX4_keepPlain_8 : decode cX4_keepPlain 8 = .ok (.aload_n 1, 1) := by decide +kernel
theorem dX4_keepPlain_9 : decode cX4_keepPlain 9 = .ok (.iload_n 3, 1) := by decide +kernel
theorem dX4_keepPlain_10 : decode cX4_keepPlain 10 = .ok (.lload 4, 2) := by decide +kernel
theorem dX4_keepPlain_12 : decode cX4_keepPlain 12 = .ok (.iload 6, 2) := by decide +kernel
theorem dX4_keepPlain_14 : decode cX4_keepPlain 14 = .ok (.getstatic 115, 3) := by decide +kernel
theorem dX4_keepPlain_17 : decode cX4_keepPlain 17 = .ok (.invokevirtual 119, 3) := by decide +kernel
theorem dX4_keepPlain_20 : decode cX4_keepPlain 20 = .ok (.goto 10, 3) := by decide +kernel
theorem dX4_keepPlain_23 : decode cX4_keepPlain 23 = .ok (.aload_n 0, 1) := by decide +kernel
theorem dX4_keepPlain_24 : decode cX4_keepPlain 24 = .ok (.bipush 7, 2) := by decide +kernel
theorem dX4_keepPlain_26 : decode cX4_keepPlain 26 = .ok (.iload_n 2, 1) := by decide +kernel
theorem dX4_keepPlain_27 : decode cX4_keepPlain 27 = .ok (.invokevirtual 54, 3) := by decide +kernel
theorem dX4_keepPlain_30 : decode cX4_keepPlain 30 = .ok (.ireturn, 1) := by decide +kernel
theorem dX5_init_0 : decode cX5_init 0 = .ok (.aload_n 0, 1) := by decide +kernel
theorem dX5_init_1 : decode cX5_init 1 = .ok (.invokespecial 3, 3) := by decide +kernel
theorem dX5_init_4 : decode cX5_init 4 = .ok (.aload_n 0, 1) := by decide +kernel
theorem dX5_init_5 : decode cX5_init 5 = .ok (.getstatic 9, 3) := by decide +kernel
theorem dX5_init_8 : decode cX5_init 8 = .ok (.putfield 13, 3) := by decide +kernel
theorem dX5_init_11 : decode cX5_init 11 = .ok (.aload_n 0, 1) := by decide +kernel
theorem dX5_init_12 : decode cX5_init 12 = .ok (.iconst (-1), 1) := by decide +kernel
theorem dX5_init_13 : decode cX5_init 13 = .ok (.putfield 18, 3) := by decide +kernel
theorem dX5_init_16 : decode cX5_init 16 = .ok (.aload_n 0, 1) := by decide +kernel
theorem dX5_init_17 : decode cX5_init 17 = .ok (.iload_n 1, 1) := by decide +kernel
theorem dX5_init_18 : decode cX5_init 18 = .ok (.putfield 22, 3) := by decide +kernel
theorem dX5_init_21 : decode cX5_init 21 = .ok (.aload_n 0, 1) := by decide +kernel
theorem dX5_init_22 : decode cX5_init 22 = .ok (.iload_n 2, 1) := by decide +kernel
theorem dX5_init_23 : decode cX5_init 23 = .ok (.putfield 25, 3) := by decide +kernel
theorem dX5_init_26 : decode cX5_init 26 = .ok (.aload_n 0, 1) := by decide +kernel
theorem dX5_init_27 : decode cX5_init 27 = .ok (.lload_n 3, 1) := by decide +kernel
theorem dX5_init_28 : decode cX5_init 28 = .ok (.putfield 28, 3) := by decide +kernel
theorem dX5_init_31 : decode cX5_init 31 = .ok (.aload_n 0, 1) := by decide +kernel
theorem dX5_init_32 : decode cX5_init 32 = .ok (.iload 5, 2) := by decide +kernel
theorem dX5_init_34 : decode cX5_init 34 = .ok (.putfield 32, 3) := by decide +kernel
theorem dX5_init_37 : decode cX5_init 37 = .ok (.aload_n 0, 1) := by decide +kernel
theorem dX5_init_38 : decode cX5_init 38 = .ok (.aload 6, 2) := by decide +kernel
theorem dX5_init_40 : decode cX5_init 40 = .ok (.putfield 35, 3) := by decide +kernel
theorem dX5_init_43 : decode cX5_init 43 = .ok (.return_, 1) := by decide +kernel
theorem dX5_isGroup_0 : decode cX5_isGroup 0 = .ok (.aload_n 0, 1) := by decide +kernel
theorem dX5_isGroup_1 : decode cX5_isGroup 1 = .ok (.getfield 22, 3) := by decide +kernel
theorem dX5_isGroup_4 : decode cX5_isGroup 4 = .ok (.bipush 7, 2) := by decide +kernel
theorem dX5_isGroup_6 : decode cX5_isGroup 6 = .ok (.if_icmp .eq 12, 3) := by decide +kernel
theorem dX5_isGroup_9 : decode cX5_isGroup 9 = .ok (.aload_n 0, 1) := by decide +kernel
theorem dX5_isGroup_10 : decode cX5_isGroup 10 = .ok (.getfield 22, 3) := by decide +kernel
theorem dX5_isGroup_13 : decode cX5_isGroup 13 = .ok (.bipush 8, 2) := by decide +kernel
theorem dX5_isGroup_15 : decode cX5_isGroup 15 = .ok (.if_icmp .ne 7, 3) := by decide +kernel
theorem dX5_isGroup_18 : decode cX5_isGroup 18 = .ok (.iconst 1, 1) := by decide +kernel
theorem dX5_isGroup_19 : decode cX5_isGroup 19 = .ok (.goto 4, 3) := by decide +kernel
theorem dX5_isGroup_22 : decode cX5_isGroup 22 = .ok (.iconst 0, 1) := by decide +kernel
theorem dX5_isGroup_23 : decode cX5_isGroup 23 = .ok (.ireturn, 1) := by decide +kernel
theorem dX5_isHigh_0 : decode cX5_isHigh 0 = .ok (.aload_n 0, 1) := by decide +kernel
theorem dX5_isHigh_1 : decode cX5_isHigh 1 = .ok (.getfield 22, 3) := by decide +kernel
theorem dX5_isHigh_4 : decode cX5_isHigh 4 = .ok (.iconst 2, 1) := by decide +kernel
theorem dX5_isHigh_5 : decode cX5_isHigh 5 = .ok (.if_icmp .ne 15, 3) := by decide +kernel
theorem dX5_isHigh_8 : decode cX5_isHigh 8 = .ok (.aload_n 0, 1) := by decide +kernel
theorem dX5_isHigh_9 : decode cX5_isHigh 9 = .ok (.getfield 32, 3) := by decide +kernel
theorem dX5_isHigh_12 : decode cX5_isHigh 12 = .ok (.iconst 1, 1) := by decide +kernel
theorem dX5_isHigh_13 : decode cX5_isHigh 13 = .ok (.if_icmp .ne 7, 3) := by decide +kernel
theorem dX5_isHigh_16 : decode cX5_isHigh 16 = .ok (.iconst 1, 1) := by decide +kernel
theorem dX5_isHigh_17 : decode cX5_isHigh 17 = .ok (.goto 4, 3) := by decide +kernel
theorem dX5_isHigh_20 : decode cX5_isHigh 20 = .ok (.iconst 0, 1) := by decide +kernel
theorem dX5_isHigh_21 : decode cX5_isHigh 21 = .ok (.ireturn, 1) := by decide +kernel
theorem dX5_length_0 : decode cX5_length 0 = .ok (.aload_n 0, 1) := by decide +kernel
theorem dX5_length_1 : decode cX5_length 1 = .ok (.invokevirtual 39, 3) := by decide +kernel
theorem dX5_length_4 : decode cX5_length 4 = .ok (.ifCond .eq 26, 3) := by decide +kernel
theorem dX5_length_7 : decode cX5_length 7 = .ok (.aload_n 0, 1) := by decide +kernel
theorem dX5_length_8 : decode cX5_length 8 = .ok (.getfield 22, 3) := by decide +kernel
theorem dX5_length_11 : decode cX5_length 11 = .ok (.bipush 8, 2) := by decide +kernel
theorem dX5_length_13 : decode cX5_length 13 = .ok (.if_icmp .ne 12, 3) := by decide +kernel
theorem dX5_length_16 : decode cX5_length 16 = .ok (.aload_n 0, 1) := by decide +kernel
theorem dX5_length_17 : decode cX5_length 17 = .ok (.getfield 43, 3) := by decide +kernel
theorem dX5_length_20 : decode cX5_length 20 = .ok (.iconst 2, 1) := by decide +kernel
theorem dX5_length_21 : decode cX5_length 21 = .ok (.idiv, 1) := by decide +kernel
theorem dX5_length_22 : decode cX5_length 22 = .ok (.goto 7, 3) := by decide +kernel
theorem dX5_length_25 : decode cX5_length 25 = .ok (.aload_n 0, 1) := by decide +kernel
theorem dX5_length_26 : decode cX5_length 26 = .ok (.getfield 43, 3) := by decide +kernel
theorem dX5_length_29 : decode cX5_length 29 = .ok (.ireturn, 1) := by decide +kernel
theorem dX5_length_30 : decode cX5_length 30 = .ok (.aload_n 0, 1) := by decide +kernel
theorem dX5_length_31 : decode cX5_length 31 = .ok (.getfield 35, 3) := by decide +kernel
theorem dX5_length_34 : decode cX5_length 34 = .ok (.arraylength, 1) := by decide +kernel
theorem dX5_length_35 : decode cX5_length 35 = .ok (.ireturn, 1) := by decide +kernel
theorem dX5_append_0 : decode cX5_append 0 = .ok (.aload_n 0, 1) := by decide +kernel
theorem dX5_append_1 : decode cX5_append 1 = .ok (.getfield 43, 3) := by decide +kernel
theorem dX5_append_4 : decode cX5_append 4 = .ok (.aload_n 0, 1) := by decide +kernel
theorem dX5_append_5 : decode cX5_append 5 = .ok (.getfield 13, 3) := by decide +kernel
theorem dX5_append_8 : decode cX5_append 8 = .ok (.arraylength, 1) := by decide +kernel
theorem dX5_append_9 : decode cX5_append 9 = .ok (.if_icmp .ne 24, 3) := by decide +kernel
theorem dX5_append_12 : decode cX5_append 12 = .ok (.aload_n 0, 1) := by decide +kernel
theorem dX5_append_13 : decode cX5_append 13 = .ok (.aload_n 0, 1) := by decide +kernel
theorem dX5_append_14 : decode cX5_append 14 = .ok (.getfield 13, 3) := by decide +kernel
theorem dX5_append_17 : decode cX5_append 17 = .ok (.iconst 4, 1) := by decide +kernel
theorem dX5_append_18 : decode cX5_append 18 = .ok (.iconst 2, 1) := by decide +kernel
theorem dX5_append_19 : decode cX5_append 19 = .ok (.aload_n 0, 1) := by decide +kernel
theorem dX5_append_20 : decode cX5_append 20 = .ok (.getfield 43, 3) := by decide +kernel
theorem dX5_append_23 : decode cX5_append 23 = .ok (.imul, 1) := by decide +kernel
theorem dX5_append_24 : decode cX5_append 24 = .ok (.invokestatic 46, 3) := by decide +kernel
theorem dX5_append_27 : decode cX5_append 27 = .ok (.invokestatic 52, 3) := by decide +kernel
theorem dX5_append_30 : decode cX5_append 30 = .ok (.putfield 13, 3) := by decide +kernel
theorem dX5_append_33 : decode cX5_append 33 = .ok (.aload_n 0, 1) := by decide +kernel
theorem dX5_append_34 : decode cX5_append 34 = .ok (.getfield 13, 3) := by decide +kernel
theorem dX5_append_37 : decode cX5_append 37 = .ok (.aload_n 0, 1) := by decide +kernel
theorem dX5_append_38 : decode cX5_append 38 = .ok (.getfield 43, 3) := by decide +kernel
theorem dX5_append_41 : decode cX5_append 41 = .ok (.iload_n 1, 1) := by decide +kernel
theorem dX5_append_42 : decode cX5_append 42 = .ok (.iastore, 1) := by decide +kernel
theorem dX5_append_43 : decode cX5_append 43 = .ok (.aload_n 0, 1) := by decide +kernel
theorem dX5_append_44 : decode cX5_append 44 = .ok (.dup, 1) := by decide +kernel
theorem dX5_append_45 : decode cX5_append 45 = .ok (.getfield 43, 3) := by decide +kernel
theorem dX5_append_48 : decode cX5_append 48 = .ok (.iconst 1, 1) := by decide +kernel
theorem dX5_append_49 : decode cX5_append 49 = .ok (.iadd, 1) := by decide +kernel
theorem dX5_append_50 : decode cX5_append 50 = .ok (.putfield 43, 3) := by decide +kernel
theorem dX5_append_53 : decode cX5_append 53 = .ok (.return_, 1) := by decide +kernel
theorem dX6_init_0 : decode cX6_init 0 = .ok (.aload_n 0, 1) := by decide +kernel
theorem dX6_init_1 : decode cX6_init 1 = .ok (.invokespecial 3, 3) := by decide +kernel
theorem dX6_init_4 : decode cX6_init 4 = .ok (.aload_n 0, 1) := by decide +kernel
theorem dX6_init_5 : decode cX6_init 5 = .ok (.new 9, 3) := by decide +kernel
theorem dX6_init_8 : decode cX6_init 8 = .ok (.dup, 1) := by decide +kernel
theorem dX6_init_9 : decode cX6_init 9 = .ok (.invokespecial 11, 3) := by decide +kernel
theorem dX6_init_12 : decode cX6_init 12 = .ok (.putfield 12, 3) := by decide +kernel
theorem dX6_init_15 : decode cX6_init 15 = .ok (.return_, 1) := by decide +kernel
theorem dX6_size_0 : decode cX6_size 0 = .ok (.aload_n 0, 1) := by decide +kernel
theorem dX6_size_1 : decode cX6_size 1 = .ok (.getfield 12, 3) := by decide +kernel
theorem dX6_size_4 : decode cX6_size 4 = .ok (.invokevirtual 18, 3) := by decide +kernel
theorem dX6_size_7 : decode cX6_size 7 = .ok (.ireturn, 1) := by decide +kernel
theorem dX6_has_0 : decode cX6_has 0 = .ok (.iload_n 1, 1) := by decide +kernel
theorem dX6_has_1 : decode cX6_has 1 = .ok (.ifCond .lt 18, 3) := by decide +kernel
theorem dX6_has_4 : decode cX6_has 4 = .ok (.iload_n 1, 1) := by decide +kernel
theorem dX6_has_5 : decode cX6_has 5 = .ok (.aload_n 0, 1) := by decide +kernel
theorem dX6_has_6 : decode cX6_has 6 = .ok (.getfield 12, 3) := by decide +kernel
theorem dX6_has_9 : decode cX6_has 9 = .ok (.invokevirtual 18, 3) := by decide +kernel
theorem dX6_has_12 : decode cX6_has 12 = .ok (.if_icmp .ge 7, 3) := by decide +kernel
theorem dX6_has_15 : decode cX6_has 15 = .ok (.iconst 1, 1) := by decide +kernel
theorem dX6_has_16 : decode cX6_has 16 = .ok (.goto 4, 3) := by decide +kernel
theorem dX6_has_19 : decode cX6_has 19 = .ok (.iconst 0, 1) := by decide +kernel
theorem dX6_has_20 : decode cX6_has 20 = .ok (.ireturn, 1) := by decide +kernel
theorem dX6_at_0 : decode cX6_at 0 = .ok (.aload_n 0, 1) := by decide +kernel
theorem dX6_at_1 : decode cX6_at 1 = .ok (.getfield 12, 3) := by decide +kernel
theorem dX6_at_4 : decode cX6_at 4 = .ok (.iload_n 1, 1) := by decide +kernel
theorem dX6_at_5 : decode cX6_at 5 = .ok (.invokevirtual 22, 3) := by decide +kernel
theorem dX6_at_8 : decode cX6_at 8 = .ok (.checkcast 26, 3) := by decide +kernel
theorem dX6_at_11 : decode cX6_at 11 = .ok (.areturn, 1) := by decide +kernel
theorem dX6_takes_0 : decode cX6_takes 0 = .ok (.aload_n 0, 1) := by decide +kernel
theorem dX6_takes_1 : decode cX6_takes 1 = .ok (.getfield 12, 3) := by decide +kernel
theorem dX6_takes_4 : decode cX6_takes 4 = .ok (.invokevirtual 18, 3) := by decide +kernel
theorem dX6_takes_7 : decode cX6_takes 7 = .ok (.sipush 3000, 3) := by decide +kernel
theorem dX6_takes_10 : decode cX6_takes 10 = .ok (.if_icmp .ge 18, 3) := by decide +kernel
theorem dX6_takes_13 : decode cX6_takes 13 = .ok (.aload_n 0, 1) := by decide +kernel
theorem dX6_takes_14 : decode cX6_takes 14 = .ok (.getfield 28, 3) := by decide +kernel
theorem dX6_takes_17 : decode cX6_takes 17 = .ok (.iload_n 1, 1) := by decide +kernel
theorem dX6_takes_18 : decode cX6_takes 18 = .ok (.iadd, 1) := by decide +kernel
theorem dX6_takes_19 : decode cX6_takes 19 = .ok (.ldc 32, 2) := by decide +kernel
theorem dX6_takes_21 : decode cX6_takes 21 = .ok (.if_icmp .gt 7, 3) := by decide +kernel
theorem dX6_takes_24 : decode cX6_takes 24 = .ok (.iconst 1, 1) := by decide +kernel
theorem dX6_takes_25 : decode cX6_takes 25 = .ok (.goto 4, 3) := by decide +kernel
theorem dX6_takes_28 : decode cX6_takes 28 = .ok (.iconst 0, 1) := by decide +kernel
theorem dX6_takes_29 : decode cX6_takes 29 = .ok (.ireturn, 1) := by decide +kernel
theorem dX6_takesParts_0 : decode cX6_takesParts 0 = .ok (.aload_n 0, 1) := by decide +kernel
theorem dX6_takesParts_1 : decode cX6_takesParts 1 = .ok (.getfield 33, 3) := by decide +kernel
theorem dX6_takesParts_4 : decode cX6_takesParts 4 = .ok (.i2l, 1) := by decide +kernel
theorem dX6_takesParts_5 : decode cX6_takesParts 5 = .ok (.lload_n 1, 1) := by decide +kernel
theorem dX6_takesParts_6 : decode cX6_takesParts 6 = .ok (.ladd, 1) := by decide +kernel
theorem dX6_takesParts_7 : decode cX6_takesParts 7 = .ok (.ldc2_w 36, 3) := by decide +kernel
theorem dX6_takesParts_10 : decode cX6_takesParts 10 = .ok (.lcmp, 1) := by decide +kernel
theorem dX6_takesParts_11 : decode cX6_takesParts 11 = .ok (.ifCond .gt 7, 3) := by decide +kernel
theorem dX6_takesParts_14 : decode cX6_takesParts 14 = .ok (.iconst 1, 1) := by decide +kernel
theorem dX6_takesParts_15 : decode cX6_takesParts 15 = .ok (.goto 4, 3) := by decide +kernel
theorem dX6_takesParts_18 : decode cX6_takesParts 18 = .ok (.iconst 0, 1) := by decide +kernel
theorem dX6_takesParts_19 : decode cX6_takesParts 19 = .ok (.ireturn, 1) := by decide +kernel
theorem dX6_hold_0 : decode cX6_hold 0 = .ok (.aload_n 0, 1) := by decide +kernel
theorem dX6_hold_1 : decode cX6_hold 1 = .ok (.dup, 1) := by decide +kernel
theorem dX6_hold_2 : decode cX6_hold 2 = .ok (.getfield 33, 3) := by decide +kernel
theorem dX6_hold_5 : decode cX6_hold 5 = .ok (.iload_n 1, 1) := by decide +kernel
theorem dX6_hold_6 : decode cX6_hold 6 = .ok (.iadd, 1) := by decide +kernel
theorem dX6_hold_7 : decode cX6_hold 7 = .ok (.putfield 33, 3) := by decide +kernel
theorem dX6_hold_10 : decode cX6_hold 10 = .ok (.return_, 1) := by decide +kernel
theorem dX6_keep_0 : decode cX6_keep 0 = .ok (.aload_n 0, 1) := by decide +kernel
theorem dX6_keep_1 : decode cX6_keep 1 = .ok (.getfield 12, 3) := by decide +kernel
theorem dX6_keep_4 : decode cX6_keep 4 = .ok (.invokevirtual 18, 3) := by decide +kernel
theorem dX6_keep_7 : decode cX6_keep 7 = .ok (.istore 6, 2) := by decide +kernel
theorem dX6_keep_9 : decode cX6_keep 9 = .ok (.aload_n 0, 1) := by decide +kernel
theorem dX6_keep_10 : decode cX6_keep 10 = .ok (.getfield 12, 3) := by decide +kernel
theorem dX6_keep_13 : decode cX6_keep 13 = .ok (.new 26, 3) := by decide +kernel
theorem dX6_keep_16 : decode cX6_keep 16 = .ok (.dup, 1) := by decide +kernel
theorem dX6_keep_17 : decode cX6_keep 17 = .ok (.iload_n 1, 1) := by decide +kernel
theorem dX6_keep_18 : decode cX6_keep 18 = .ok (.iload 6, 2) := by decide +kernel
theorem dX6_keep_20 : decode cX6_keep 20 = .ok (.lload_n 2, 1) := by decide +kernel
theorem dX6_keep_21 : decode cX6_keep 21 = .ok (.iload 4, 2) := by decide +kernel
theorem dX6_keep_23 : decode cX6_keep 23 = .ok (.aload 5, 2) := by decide +kernel
theorem dX6_keep_25 : decode cX6_keep 25 = .ok (.invokespecial 38, 3) := by decide +kernel
theorem dX6_keep_28 : decode cX6_keep 28 = .ok (.invokevirtual 41, 3) := by decide +kernel
theorem dX6_keep_31 : decode cX6_keep 31 = .ok (.pop, 1) := by decide +kernel
theorem dX6_keep_32 : decode cX6_keep 32 = .ok (.aload_n 0, 1) := by decide +kernel
theorem dX6_keep_33 : decode cX6_keep 33 = .ok (.dup, 1) := by decide +kernel
theorem dX6_keep_34 : decode cX6_keep 34 = .ok (.getfield 28, 3) := by decide +kernel
theorem dX6_keep_37 : decode cX6_keep 37 = .ok (.aload 5, 2) := by decide +kernel
theorem dX6_keep_39 : decode cX6_keep 39 = .ok (.arraylength, 1) := by decide +kernel
theorem dX6_keep_40 : decode cX6_keep 40 = .ok (.iadd, 1) := by decide +kernel
theorem dX6_keep_41 : decode cX6_keep 41 = .ok (.putfield 28, 3) := by decide +kernel
theorem dX6_keep_44 : decode cX6_keep 44 = .ok (.iload 6, 2) := by decide +kernel
theorem dX6_keep_46 : decode cX6_keep 46 = .ok (.ireturn, 1) := by decide +kernel
theorem dX6_keepOnly_0 : decode cX6_keepOnly 0 = .ok (.aload_n 0, 1) := by decide +kernel
theorem dX6_keepOnly_1 : decode cX6_keepOnly 1 = .ok (.getfield 12, 3) := by decide +kernel
theorem dX6_keepOnly_4 : decode cX6_keepOnly 4 = .ok (.invokevirtual 18, 3) := by decide +kernel
theorem dX6_keepOnly_7 : decode cX6_keepOnly 7 = .ok (.iconst 1, 1) := by decide +kernel
theorem dX6_keepOnly_8 : decode cX6_keepOnly 8 = .ok (.isub, 1) := by decide +kernel
theorem dX6_keepOnly_9 : decode cX6_keepOnly 9 = .ok (.istore 4, 2) := by decide +kernel
theorem dX6_keepOnly_11 : decode cX6_keepOnly 11 = .ok (.iload 4, 2) := by decide +kernel
theorem dX6_keepOnly_13 : decode cX6_keepOnly 13 = .ok (.iload_n 1, 1) := by decide +kernel
theorem dX6_keepOnly_14 : decode cX6_keepOnly 14 = .ok (.if_icmp .lt 19, 3) := by decide +kernel
theorem dX6_keepOnly_17 : decode cX6_keepOnly 17 = .ok (.aload_n 0, 1) := by decide +kernel
theorem dX6_keepOnly_18 : decode cX6_keepOnly 18 = .ok (.getfield 12, 3) := by decide +kernel
theorem dX6_keepOnly_21 : decode cX6_keepOnly 21 = .ok (.iload 4, 2) := by decide +kernel
theorem dX6_keepOnly_23 : decode cX6_keepOnly 23 = .ok (.invokevirtual 45, 3) := by decide +kernel
theorem dX6_keepOnly_26 : decode cX6_keepOnly 26 = .ok (.pop, 1) := by decide +kernel
theorem dX6_keepOnly_27 : decode cX6_keepOnly 27 = .ok (.iinc 4 (-1), 3) := by decide +kernel
theorem dX6_keepOnly_30 : decode cX6_keepOnly 30 = .ok (.goto (-19), 3) := by decide +kernel
theorem dX6_keepOnly_33 : decode cX6_keepOnly 33 = .ok (.aload_n 0, 1) := by decide +kernel
theorem dX6_keepOnly_34 : decode cX6_keepOnly 34 = .ok (.iload_n 2, 1) := by decide +kernel
theorem dX6_keepOnly_35 : decode cX6_keepOnly 35 = .ok (.putfield 33, 3) := by decide +kernel
theorem dX6_keepOnly_38 : decode cX6_keepOnly 38 = .ok (.aload_n 0, 1) := by decide +kernel
theorem dX6_keepOnly_39 : decode cX6_keepOnly 39 = .ok (.iload_n 3, 1) := by decide +kernel
theorem dX6_keepOnly_40 : decode cX6_keepOnly 40 = .ok (.putfield 28, 3) := by decide +kernel
theorem dX6_keepOnly_43 : decode cX6_keepOnly 43 = .ok (.return_, 1) := by decide +kernel
theorem dX7_init_0 : decode cX7_init 0 = .ok (.aload_n 0, 1) := by decide +kernel
theorem dX7_init_1 : decode cX7_init 1 = .ok (.invokespecial 1, 3) := by decide +kernel
theorem dX7_init_4 : decode cX7_init 4 = .ok (.aload_n 0, 1) := by decide +kernel
theorem dX7_init_5 : decode cX7_init 5 = .ok (.new 7, 3) := by decide +kernel
theorem dX7_init_8 : decode cX7_init 8 = .ok (.dup, 1) := by decide +kernel
theorem dX7_init_9 : decode cX7_init 9 = .ok (.invokespecial 9, 3) := by decide +kernel
theorem dX7_init_12 : decode cX7_init 12 = .ok (.putfield 10, 3) := by decide +kernel
theorem dX7_init_15 : decode cX7_init 15 = .ok (.aload_n 0, 1) := by decide +kernel
theorem dX7_init_16 : decode cX7_init 16 = .ok (.new 16, 3) := by decide +kernel
theorem dX7_init_19 : decode cX7_init 19 = .ok (.dup, 1) := by decide +kernel
theorem dX7_init_20 : decode cX7_init 20 = .ok (.invokespecial 18, 3) := by decide +kernel
theorem dX7_init_23 : decode cX7_init 23 = .ok (.putfield 19, 3) := by decide +kernel
theorem dX7_init_26 : decode cX7_init 26 = .ok (.aload_n 0, 1) := by decide +kernel
theorem dX7_init_27 : decode cX7_init 27 = .ok (.new 23, 3) := by decide +kernel
theorem dX7_init_30 : decode cX7_init 30 = .ok (.dup, 1) := by decide +kernel
theorem dX7_init_31 : decode cX7_init 31 = .ok (.invokespecial 25, 3) := by decide +kernel
theorem dX7_init_34 : decode cX7_init 34 = .ok (.putfield 26, 3) := by decide +kernel
theorem dX7_init_37 : decode cX7_init 37 = .ok (.aload_n 0, 1) := by decide +kernel
theorem dX7_init_38 : decode cX7_init 38 = .ok (.new 30, 3) := by decide +kernel
theorem dX7_init_41 : decode cX7_init 41 = .ok (.dup, 1) := by decide +kernel
theorem dX7_init_42 : decode cX7_init 42 = .ok (.invokespecial 32, 3) := by decide +kernel
theorem dX7_init_45 : decode cX7_init 45 = .ok (.putfield 33, 3) := by decide +kernel
theorem dX7_init_48 : decode cX7_init 48 = .ok (.aload_n 0, 1) := by decide +kernel
theorem dX7_init_49 : decode cX7_init 49 = .ok (.new 30, 3) := by decide +kernel
theorem dX7_init_52 : decode cX7_init 52 = .ok (.dup, 1) := by decide +kernel
theorem dX7_init_53 : decode cX7_init 53 = .ok (.invokespecial 32, 3) := by decide +kernel
theorem dX7_init_56 : decode cX7_init 56 = .ok (.putfield 37, 3) := by decide +kernel
theorem dX7_init_59 : decode cX7_init 59 = .ok (.aload_n 0, 1) := by decide +kernel
theorem dX7_init_60 : decode cX7_init 60 = .ok (.new 30, 3) := by decide +kernel
theorem dX7_init_63 : decode cX7_init 63 = .ok (.dup, 1) := by decide +kernel
theorem dX7_init_64 : decode cX7_init 64 = .ok (.invokespecial 32, 3) := by decide +kernel
theorem dX7_init_67 : decode cX7_init 67 = .ok (.putfield 40, 3) := by decide +kernel
theorem dX7_init_70 : decode cX7_init 70 = .ok (.return_, 1) := by decide +kernel
theorem dX7_feed_0 : decode cX7_feed 0 = .ok (.aload_n 0, 1) := by decide +kernel
theorem dX7_feed_1 : decode cX7_feed 1 = .ok (.getfield 10, 3) := by decide +kernel
theorem dX7_feed_4 : decode cX7_feed 4 = .ok (.invokevirtual 43, 3) := by decide +kernel
theorem dX7_feed_7 : decode cX7_feed 7 = .ok (.bipush 20, 2) := by decide +kernel
theorem dX7_feed_9 : decode cX7_feed 9 = .ok (.iadd, 1) := by decide +kernel
theorem dX7_feed_10 : decode cX7_feed 10 = .ok (.ldc 47, 2) := by decide +kernel
theorem dX7_feed_12 : decode cX7_feed 12 = .ok (.if_icmp .le 13, 3) := by decide +kernel
theorem dX7_feed_15 : decode cX7_feed 15 = .ok (.new 48, 3) := by decide +kernel
theorem dX7_feed_18 : decode cX7_feed 18 = .ok (.dup, 1) := by decide +kernel
theorem dX7_feed_19 : decode cX7_feed 19 = .ok (.ldc 50, 2) := by decide +kernel
theorem dX7_feed_21 : decode cX7_feed 21 = .ok (.invokespecial 52, 3) := by decide +kernel
theorem dX7_feed_24 : decode cX7_feed 24 = .ok (.athrow, 1) := by decide +kernel
theorem dX7_feed_25 : decode cX7_feed 25 = .ok (.aload_n 0, 1) := by decide +kernel
theorem dX7_feed_26 : decode cX7_feed 26 = .ok (.getfield 10, 3) := by decide +kernel
theorem dX7_feed_29 : decode cX7_feed 29 = .ok (.iload_n 1, 1) := by decide +kernel
theorem dX7_feed_30 : decode cX7_feed 30 = .ok (.i2l, 1) := by decide +kernel
theorem dX7_feed_31 : decode cX7_feed 31 = .ok (.iconst 4, 1) := by decide +kernel
theorem dX7_feed_32 : decode cX7_feed 32 = .ok (.invokevirtual 55, 3) := by decide +kernel
theorem dX7_feed_35 : decode cX7_feed 35 = .ok (.aload_n 0, 1) := by decide +kernel
theorem dX7_feed_36 : decode cX7_feed 36 = .ok (.getfield 10, 3) := by decide +kernel
theorem dX7_feed_39 : decode cX7_feed 39 = .ok (.iload_n 2, 1) := by decide +kernel
theorem dX7_feed_40 : decode cX7_feed 40 = .ok (.i2l, 1) := by decide +kernel
theorem dX7_feed_41 : decode cX7_feed 41 = .ok (.iconst 4, 1) := by decide +kernel
theorem dX7_feed_42 : decode cX7_feed 42 = .ok (.invokevirtual 55, 3) := by decide +kernel
theorem dX7_feed_45 : decode cX7_feed 45 = .ok (.aload_n 0, 1) := by decide +kernel
theorem dX7_feed_46 : decode cX7_feed 46 = .ok (.getfield 10, 3) := by decide +kernel
theorem dX7_feed_49 : decode cX7_feed 49 = .ok (.iload_n 3, 1) := by decide +kernel
theorem dX7_feed_50 : decode cX7_feed 50 = .ok (.i2l, 1) := by decide +kernel
theorem dX7_feed_51 : decode cX7_feed 51 = .ok (.iconst 4, 1) := by decide +kernel
theorem dX7_feed_52 : decode cX7_feed 52 = .ok (.invokevirtual 55, 3) := by decide +kernel
theorem dX7_feed_55 : decode cX7_feed 55 = .ok (.aload_n 0, 1) := by decide +kernel
theorem dX7_feed_56 : decode cX7_feed 56 = .ok (.getfield 10, 3) := by decide +kernel
theorem dX7_feed_59 : decode cX7_feed 59 = .ok (.iload 4, 2) := by decide +kernel
theorem dX7_feed_61 : decode cX7_feed 61 = .ok (.i2l, 1) := by decide +kernel
theorem dX7_feed_62 : decode cX7_feed 62 = .ok (.iconst 4, 1) := by decide +kernel
theorem dX7_feed_63 : decode cX7_feed 63 = .ok (.invokevirtual 55, 3) := by decide +kernel
theorem dX7_feed_66 : decode cX7_feed 66 = .ok (.aload_n 0, 1) := by decide +kernel
theorem dX7_feed_67 : decode cX7_feed 67 = .ok (.getfield 10, 3) := by decide +kernel
theorem dX7_feed_70 : decode cX7_feed 70 = .ok (.iload 5, 2) := by decide +kernel
theorem dX7_feed_72 : decode cX7_feed 72 = .ok (.i2l, 1) := by decide +kernel
theorem dX7_feed_73 : decode cX7_feed 73 = .ok (.iconst 4, 1) := by decide +kernel
theorem dX7_feed_74 : decode cX7_feed 74 = .ok (.invokevirtual 55, 3) := by decide +kernel
theorem dX7_feed_77 : decode cX7_feed 77 = .ok (.aload_n 0, 1) := by decide +kernel
theorem dX7_feed_78 : decode cX7_feed 78 = .ok (.getfield 10, 3) := by decide +kernel
theorem dX7_feed_81 : decode cX7_feed 81 = .ok (.invokevirtual 43, 3) := by decide +kernel
theorem dX7_feed_84 : decode cX7_feed 84 = .ok (.ireturn, 1) := by decide +kernel
theorem dX7_end_0 : decode cX7_end 0 = .ok (.iload_n 1, 1) := by decide +kernel
theorem dX7_end_1 : decode cX7_end 1 = .ok (.ifCond .lt 14, 3) := by decide +kernel
theorem dX7_end_4 : decode cX7_end 4 = .ok (.iload_n 1, 1) := by decide +kernel
theorem dX7_end_5 : decode cX7_end 5 = .ok (.aload_n 0, 1) := by decide +kernel
theorem dX7_end_6 : decode cX7_end 6 = .ok (.getfield 10, 3) := by decide +kernel
theorem dX7_end_9 : decode cX7_end 9 = .ok (.invokevirtual 43, 3) := by decide +kernel
theorem dX7_end_12 : decode cX7_end 12 = .ok (.if_icmp .le 13, 3) := by decide +kernel
theorem dX7_end_15 : decode cX7_end 15 = .ok (.new 59, 3) := by decide +kernel
theorem dX7_end_18 : decode cX7_end 18 = .ok (.dup, 1) := by decide +kernel
theorem dX7_end_19 : decode cX7_end 19 = .ok (.ldc 61, 2) := by decide +kernel
theorem dX7_end_21 : decode cX7_end 21 = .ok (.invokespecial 63, 3) := by decide +kernel
theorem dX7_end_24 : decode cX7_end 24 = .ok (.athrow, 1) := by decide +kernel
theorem dX7_end_25 : decode cX7_end 25 = .ok (.aload_n 0, 1) := by decide +kernel
theorem dX7_end_26 : decode cX7_end 26 = .ok (.getfield 10, 3) := by decide +kernel
theorem dX7_end_29 : decode cX7_end 29 = .ok (.iload_n 1, 1) := by decide +kernel
theorem dX7_end_30 : decode cX7_end 30 = .ok (.invokevirtual 64, 3) := by decide +kernel
theorem dX7_end_33 : decode cX7_end 33 = .ok (.return_, 1) := by decide +kernel
theorem dX7_unpack_0 : decode cX7_unpack 0 = .ok (.aload_n 0, 1) := by decide +kernel
theorem dX7_unpack_1 : decode cX7_unpack 1 = .ok (.getfield 26, 3) := by decide +kernel
theorem dX7_unpack_4 : decode cX7_unpack 4 = .ok (.aload_n 0, 1) := by decide +kernel
theorem dX7_unpack_5 : decode cX7_unpack 5 = .ok (.getfield 10, 3) := by decide +kernel
theorem dX7_unpack_8 : decode cX7_unpack 8 = .ok (.aload_n 0, 1) := by decide +kernel
theorem dX7_unpack_9 : decode cX7_unpack 9 = .ok (.getfield 19, 3) := by decide +kernel
theorem dX7_unpack_12 : decode cX7_unpack 12 = .ok (.invokevirtual 68, 3) := by decide +kernel
theorem dX7_unpack_15 : decode cX7_unpack 15 = .ok (.istore_n 1, 1) := by decide +kernel
theorem dX7_unpack_16 : decode cX7_unpack 16 = .ok (.aload_n 0, 1) := by decide +kernel
theorem dX7_unpack_17 : decode cX7_unpack 17 = .ok (.getfield 10, 3) := by decide +kernel
theorem dX7_unpack_20 : decode cX7_unpack 20 = .ok (.iconst 0, 1) := by decide +kernel
theorem dX7_unpack_21 : decode cX7_unpack 21 = .ok (.invokevirtual 64, 3) := by decide +kernel
theorem dX7_unpack_24 : decode cX7_unpack 24 = .ok (.iload_n 1, 1) := by decide +kernel
theorem dX7_unpack_25 : decode cX7_unpack 25 = .ok (.ireturn, 1) := by decide +kernel
theorem dX7_fault_0 : decode cX7_fault 0 = .ok (.iload_n 1, 1) := by decide +kernel
theorem dX7_fault_1 : decode cX7_fault 1 = .ok (.ifCond .lt 8, 3) := by decide +kernel
theorem dX7_fault_4 : decode cX7_fault 4 = .ok (.iload_n 1, 1) := by decide +kernel
theorem dX7_fault_5 : decode cX7_fault 5 = .ok (.iconst 1, 1) := by decide +kernel
theorem dX7_fault_6 : decode cX7_fault 6 = .ok (.if_icmp .le 13, 3) := by decide +kernel
theorem dX7_fault_9 : decode cX7_fault 9 = .ok (.new 72, 3) := by decide +kernel
theorem dX7_fault_12 : decode cX7_fault 12 = .ok (.dup, 1) := by decide +kernel
theorem dX7_fault_13 : decode cX7_fault 13 = .ok (.ldc 74, 2) := by decide +kernel
theorem dX7_fault_15 : decode cX7_fault 15 = .ok (.invokespecial 76, 3) := by decide +kernel
theorem dX7_fault_18 : decode cX7_fault 18 = .ok (.athrow, 1) := by decide +kernel
theorem dX7_fault_19 : decode cX7_fault 19 = .ok (.iload_n 1, 1) := by decide +kernel
theorem dX7_fault_20 : decode cX7_fault 20 = .ok (.ifCond .ne 13, 3) := by decide +kernel
theorem dX7_fault_23 : decode cX7_fault 23 = .ok (.aload_n 0, 1) := by decide +kernel
theorem dX7_fault_24 : decode cX7_fault 24 = .ok (.getfield 26, 3) := by decide +kernel
theorem dX7_fault_27 : decode cX7_fault 27 = .ok (.getfield 77, 3) := by decide +kernel
theorem dX7_fault_30 : decode cX7_fault 30 = .ok (.goto 10, 3) := by decide +kernel
theorem dX7_fault_33 : decode cX7_fault 33 = .ok (.aload_n 0, 1) := by decide +kernel
theorem dX7_fault_34 : decode cX7_fault 34 = .ok (.getfield 26, 3) := by decide +kernel
theorem dX7_fault_37 : decode cX7_fault 37 = .ok (.getfield 81, 3) := by decide +kernel
theorem dX7_fault_40 : decode cX7_fault 40 = .ok (.ireturn, 1) := by decide +kernel
theorem dX7_skip_0 : decode cX7_skip 0 = .ok (.iload_n 1, 1) := by decide +kernel
theorem dX7_skip_1 : decode cX7_skip 1 = .ok (.ifCond .lt 14, 3) := by decide +kernel
theorem dX7_skip_4 : decode cX7_skip 4 = .ok (.iload_n 1, 1) := by decide +kernel
theorem dX7_skip_5 : decode cX7_skip 5 = .ok (.aload_n 0, 1) := by decide +kernel
theorem dX7_skip_6 : decode cX7_skip 6 = .ok (.getfield 10, 3) := by decide +kernel
theorem dX7_skip_9 : decode cX7_skip 9 = .ok (.invokevirtual 43, 3) := by decide +kernel
theorem dX7_skip_12 : decode cX7_skip 12 = .ok (.if_icmp .lt 13, 3) := by decide +kernel
theorem dX7_skip_15 : decode cX7_skip 15 = .ok (.new 72, 3) := by decide +kernel
theorem dX7_skip_18 : decode cX7_skip 18 = .ok (.dup, 1) := by decide +kernel
theorem dX7_skip_19 : decode cX7_skip 19 = .ok (.ldc 84, 2) := by decide +kernel
theorem dX7_skip_21 : decode cX7_skip 21 = .ok (.invokespecial 76, 3) := by decide +kernel
theorem dX7_skip_24 : decode cX7_skip 24 = .ok (.athrow, 1) := by decide +kernel
theorem dX7_skip_25 : decode cX7_skip 25 = .ok (.aload_n 0, 1) := by decide +kernel
theorem dX7_skip_26 : decode cX7_skip 26 = .ok (.getfield 26, 3) := by decide +kernel
theorem dX7_skip_29 : decode cX7_skip 29 = .ok (.aload_n 0, 1) := by decide +kernel
theorem dX7_skip_30 : decode cX7_skip 30 = .ok (.getfield 10, 3) := by decide +kernel
theorem dX7_skip_33 : decode cX7_skip 33 = .ok (.iload_n 1, 1) := by decide +kernel
theorem dX7_skip_34 : decode cX7_skip 34 = .ok (.invokevirtual 86, 3) := by decide +kernel
theorem dX7_skip_37 : decode cX7_skip 37 = .ok (.ireturn, 1) := by decide +kernel
theorem dX7_pack_0 : decode cX7_pack 0 = .ok (.aload_n 0, 1) := by decide +kernel
theorem dX7_pack_1 : decode cX7_pack 1 = .ok (.iload_n 1, 1) := by decide +kernel
theorem dX7_pack_2 : decode cX7_pack 2 = .ok (.invokevirtual 90, 3) := by decide +kernel
theorem dX7_pack_5 : decode cX7_pack 5 = .ok (.aload_n 0, 1) := by decide +kernel
theorem dX7_pack_6 : decode cX7_pack 6 = .ok (.getfield 33, 3) := by decide +kernel
theorem dX7_pack_9 : decode cX7_pack 9 = .ok (.aload_n 0, 1) := by decide +kernel
theorem dX7_pack_10 : decode cX7_pack 10 = .ok (.getfield 19, 3) := by decide +kernel
theorem dX7_pack_13 : decode cX7_pack 13 = .ok (.iload_n 1, 1) := by decide +kernel
theorem dX7_pack_14 : decode cX7_pack 14 = .ok (.ldc 47, 2) := by decide +kernel
theorem dX7_pack_16 : decode cX7_pack 16 = .ok (.invokevirtual 93, 3) := by decide +kernel
theorem dX7_pack_19 : decode cX7_pack 19 = .ok (.ifCond .ne 13, 3) := by decide +kernel
theorem dX7_pack_22 : decode cX7_pack 22 = .ok (.new 48, 3) := by decide +kernel
theorem dX7_pack_25 : decode cX7_pack 25 = .ok (.dup, 1) := by decide +kernel
theorem dX7_pack_26 : decode cX7_pack 26 = .ok (.ldc 97, 2) := by decide +kernel
theorem dX7_pack_28 : decode cX7_pack 28 = .ok (.invokespecial 52, 3) := by decide +kernel
theorem dX7_pack_31 : decode cX7_pack 31 = .ok (.athrow, 1) := by decide +kernel
theorem dX7_pack_32 : decode cX7_pack 32 = .ok (.aload_n 0, 1) := by decide +kernel
theorem dX7_pack_33 : decode cX7_pack 33 = .ok (.getfield 33, 3) := by decide +kernel
theorem dX7_pack_36 : decode cX7_pack 36 = .ok (.getfield 99, 3) := by decide +kernel
theorem dX7_pack_39 : decode cX7_pack 39 = .ok (.invokevirtual 43, 3) := by decide +kernel
theorem dX7_pack_42 : decode cX7_pack 42 = .ok (.ireturn, 1) := by decide +kernel
theorem dX7_shown_0 : decode cX7_shown 0 = .ok (.iload_n 1, 1) := by decide +kernel
theorem dX7_shown_1 : decode cX7_shown 1 = .ok (.ifCond .lt 17, 3) := by decide +kernel
theorem dX7_shown_4 : decode cX7_shown 4 = .ok (.iload_n 1, 1) := by decide +kernel
theorem dX7_shown_5 : decode cX7_shown 5 = .ok (.aload_n 0, 1) := by decide +kernel
theorem dX7_shown_6 : decode cX7_shown 6 = .ok (.getfield 33, 3) := by decide +kernel
theorem dX7_shown_9 : decode cX7_shown 9 = .ok (.getfield 99, 3) := by decide +kernel
theorem dX7_shown_12 : decode cX7_shown 12 = .ok (.invokevirtual 43, 3) := by decide +kernel
theorem dX7_shown_15 : decode cX7_shown 15 = .ok (.if_icmp .lt 13, 3) := by decide +kernel
theorem dX7_shown_18 : decode cX7_shown 18 = .ok (.new 72, 3) := by decide +kernel
theorem dX7_shown_21 : decode cX7_shown 21 = .ok (.dup, 1) := by decide +kernel
theorem dX7_shown_22 : decode cX7_shown 22 = .ok (.ldc 102, 2) := by decide +kernel
theorem dX7_shown_24 : decode cX7_shown 24 = .ok (.invokespecial 76, 3) := by decide +kernel
theorem dX7_shown_27 : decode cX7_shown 27 = .ok (.athrow, 1) := by decide +kernel
theorem dX7_shown_28 : decode cX7_shown 28 = .ok (.aload_n 0, 1) := by decide +kernel
theorem dX7_shown_29 : decode cX7_shown 29 = .ok (.getfield 33, 3) := by decide +kernel
theorem dX7_shown_32 : decode cX7_shown 32 = .ok (.getfield 99, 3) := by decide +kernel
theorem dX7_shown_35 : decode cX7_shown 35 = .ok (.iload_n 1, 1) := by decide +kernel
theorem dX7_shown_36 : decode cX7_shown 36 = .ok (.invokevirtual 104, 3) := by decide +kernel
theorem dX7_shown_39 : decode cX7_shown 39 = .ok (.ireturn, 1) := by decide +kernel
theorem dX7_nil_0 : decode cX7_nil 0 = .ok (.aload_n 0, 1) := by decide +kernel
theorem dX7_nil_1 : decode cX7_nil 1 = .ok (.iconst 0, 1) := by decide +kernel
theorem dX7_nil_2 : decode cX7_nil 2 = .ok (.invokevirtual 108, 3) := by decide +kernel
theorem dX7_nil_5 : decode cX7_nil 5 = .ok (.aload_n 0, 1) := by decide +kernel
theorem dX7_nil_6 : decode cX7_nil 6 = .ok (.getfield 19, 3) := by decide +kernel
theorem dX7_nil_9 : decode cX7_nil 9 = .ok (.iconst 0, 1) := by decide +kernel
theorem dX7_nil_10 : decode cX7_nil 10 = .ok (.lconst 0, 1) := by decide +kernel
theorem dX7_nil_11 : decode cX7_nil 11 = .ok (.iconst 0, 1) := by decide +kernel
theorem dX7_nil_12 : decode cX7_nil 12 = .ok (.getstatic 111, 3) := by decide +kernel
theorem dX7_nil_15 : decode cX7_nil 15 = .ok (.invokevirtual 115, 3) := by decide +kernel
theorem dX7_nil_18 : decode cX7_nil 18 = .ok (.ireturn, 1) := by decide +kernel
theorem dX7_truth_0 : decode cX7_truth 0 = .ok (.aload_n 0, 1) := by decide +kernel
theorem dX7_truth_1 : decode cX7_truth 1 = .ok (.iconst 0, 1) := by decide +kernel
theorem dX7_truth_2 : decode cX7_truth 2 = .ok (.invokevirtual 108, 3) := by decide +kernel
theorem dX7_truth_5 : decode cX7_truth 5 = .ok (.aload_n 0, 1) := by decide +kernel
theorem dX7_truth_6 : decode cX7_truth 6 = .ok (.getfield 19, 3) := by decide +kernel
theorem dX7_truth_9 : decode cX7_truth 9 = .ok (.iconst 1, 1) := by decide +kernel
theorem dX7_truth_10 : decode cX7_truth 10 = .ok (.lconst 0, 1) := by decide +kernel
theorem dX7_truth_11 : decode cX7_truth 11 = .ok (.iload_n 1, 1) := by decide +kernel
theorem dX7_truth_12 : decode cX7_truth 12 = .ok (.ifCond .eq 7, 3) := by decide +kernel
theorem dX7_truth_15 : decode cX7_truth 15 = .ok (.iconst 1, 1) := by decide +kernel
theorem dX7_truth_16 : decode cX7_truth 16 = .ok (.goto 4, 3) := by decide +kernel
theorem dX7_truth_19 : decode cX7_truth 19 = .ok (.iconst 0, 1) := by decide +kernel
theorem dX7_truth_20 : decode cX7_truth 20 = .ok (.getstatic 111, 3) := by decide +kernel
theorem dX7_truth_23 : decode cX7_truth 23 = .ok (.invokevirtual 115, 3) := by decide +kernel
theorem dX7_truth_26 : decode cX7_truth 26 = .ok (.ireturn, 1) := by decide +kernel
theorem dX7_integer_0 : decode cX7_integer 0 = .ok (.aload_n 0, 1) := by decide +kernel
theorem dX7_integer_1 : decode cX7_integer 1 = .ok (.iconst 0, 1) := by decide +kernel
theorem dX7_integer_2 : decode cX7_integer 2 = .ok (.invokevirtual 108, 3) := by decide +kernel
theorem dX7_integer_5 : decode cX7_integer 5 = .ok (.aload_n 0, 1) := by decide +kernel
theorem dX7_integer_6 : decode cX7_integer 6 = .ok (.getfield 19, 3) := by decide +kernel
theorem dX7_integer_9 : decode cX7_integer 9 = .ok (.iconst 2, 1) := by decide +kernel
theorem dX7_integer_10 : decode cX7_integer 10 = .ok (.lload_n 1, 1) := by decide +kernel
theorem dX7_integer_11 : decode cX7_integer 11 = .ok (.iload_n 3, 1) := by decide +kernel
theorem dX7_integer_12 : decode cX7_integer 12 = .ok (.ifCond .eq 13, 3) := by decide +kernel
theorem dX7_integer_15 : decode cX7_integer 15 = .ok (.lload_n 1, 1) := by decide +kernel
theorem dX7_integer_16 : decode cX7_integer 16 = .ok (.lconst 0, 1) := by decide +kernel
theorem dX7_integer_17 : decode cX7_integer 17 = .ok (.lcmp, 1) := by decide +kernel
theorem dX7_integer_18 : decode cX7_integer 18 = .ok (.ifCond .ge 7, 3) := by decide +kernel
theorem dX7_integer_21 : decode cX7_integer 21 = .ok (.iconst 1, 1) := by decide +kernel
theorem dX7_integer_22 : decode cX7_integer 22 = .ok (.goto 4, 3) := by decide +kernel
theorem dX7_integer_25 : decode cX7_integer 25 = .ok (.iconst 0, 1) := by decide +kernel
theorem dX7_integer_26 : decode cX7_integer 26 = .ok (.getstatic 111, 3) := by decide +kernel
theorem dX7_integer_29 : decode cX7_integer 29 = .ok (.invokevirtual 115, 3) := by decide +kernel
theorem dX7_integer_32 : decode cX7_integer 32 = .ok (.ireturn, 1) := by decide +kernel
theorem dX7_real_0 : decode cX7_real 0 = .ok (.aload_n 0, 1) := by decide +kernel
theorem dX7_real_1 : decode cX7_real 1 = .ok (.iconst 0, 1) := by decide +kernel
theorem dX7_real_2 : decode cX7_real 2 = .ok (.invokevirtual 108, 3) := by decide +kernel
theorem dX7_real_5 : decode cX7_real 5 = .ok (.iload_n 3, 1) := by decide +kernel
theorem dX7_real_6 : decode cX7_real 6 = .ok (.ifCond .eq 19, 3) := by decide +kernel
theorem dX7_real_9 : decode cX7_real 9 = .ok (.aload_n 0, 1) := by decide +kernel
theorem dX7_real_10 : decode cX7_real 10 = .ok (.getfield 19, 3) := by decide +kernel
theorem dX7_real_13 : decode cX7_real 13 = .ok (.iconst 4, 1) := by decide +kernel
theorem dX7_real_14 : decode cX7_real 14 = .ok (.lload_n 1, 1) := by decide +kernel
theorem dX7_real_15 : decode cX7_real 15 = .ok (.iconst 0, 1) := by decide +kernel
theorem dX7_real_16 : decode cX7_real 16 = .ok (.getstatic 111, 3) := by decide +kernel
theorem dX7_real_19 : decode cX7_real 19 = .ok (.invokevirtual 115, 3) := by decide +kernel
theorem dX7_real_22 : decode cX7_real 22 = .ok (.goto 20, 3) := by decide +kernel
theorem dX7_real_25 : decode cX7_real 25 = .ok (.aload_n 0, 1) := by decide +kernel
theorem dX7_real_26 : decode cX7_real 26 = .ok (.getfield 19, 3) := by decide +kernel
theorem dX7_real_29 : decode cX7_real 29 = .ok (.iconst 3, 1) := by decide +kernel
theorem dX7_real_30 : decode cX7_real 30 = .ok (.lload_n 1, 1) := by decide +kernel
theorem dX7_real_31 : decode cX7_real 31 = .ok (.ldc2_w 119, 3) := by decide +kernel
theorem dX7_real_34 : decode cX7_real 34 = .ok (.land, 1) := by decide +kernel
theorem dX7_real_35 : decode cX7_real 35 = .ok (.iconst 0, 1) := by decide +kernel
theorem dX7_real_36 : decode cX7_real 36 = .ok (.getstatic 111, 3) := by decide +kernel
theorem dX7_real_39 : decode cX7_real 39 = .ok (.invokevirtual 115, 3) := by decide +kernel
theorem dX7_real_42 : decode cX7_real 42 = .ok (.ireturn, 1) := by decide +kernel
theorem dX7_row_0 : decode cX7_row 0 = .ok (.iload_n 1, 1) := by decide +kernel
theorem dX7_row_1 : decode cX7_row 1 = .ok (.iconst 5, 1) := by decide +kernel
theorem dX7_row_2 : decode cX7_row 2 = .ok (.if_icmp .eq 19, 3) := by decide +kernel
theorem dX7_row_5 : decode cX7_row 5 = .ok (.iload_n 1, 1) := by decide +kernel
theorem dX7_row_6 : decode cX7_row 6 = .ok (.bipush 6, 2) := by decide +kernel
theorem dX7_row_8 : decode cX7_row 8 = .ok (.if_icmp .eq 13, 3) := by decide +kernel
theorem dX7_row_11 : decode cX7_row 11 = .ok (.new 59, 3) := by decide +kernel
theorem dX7_row_14 : decode cX7_row 14 = .ok (.dup, 1) := by decide +kernel
theorem dX7_row_15 : decode cX7_row 15 = .ok (.ldc 121, 2) := by decide +kernel
theorem dX7_row_17 : decode cX7_row 17 = .ok (.invokespecial 63, 3) := by decide +kernel
theorem dX7_row_20 : decode cX7_row 20 = .ok (.athrow, 1) := by decide +kernel
theorem dX7_row_21 : decode cX7_row 21 = .ok (.iload_n 1, 1) := by decide +kernel
theorem dX7_row_22 : decode cX7_row 22 = .ok (.iconst 5, 1) := by decide +kernel
theorem dX7_row_23 : decode cX7_row 23 = .ok (.if_icmp .ne 32, 3) := by decide +kernel
theorem dX7_row_26 : decode cX7_row 26 = .ok (.aload_n 0, 1) := by decide +kernel
theorem dX7_row_27 : decode cX7_row 27 = .ok (.getfield 10, 3) := by decide +kernel
theorem dX7_row_30 : decode cX7_row 30 = .ok (.iconst 0, 1) := by decide +kernel
theorem dX7_row_31 : decode cX7_row 31 = .ok (.aload_n 0, 1) := by decide +kernel
theorem dX7_row_32 : decode cX7_row 32 = .ok (.getfield 10, 3) := by decide +kernel
theorem dX7_row_35 : decode cX7_row 35 = .ok (.invokevirtual 43, 3) := by decide +kernel
theorem dX7_row_38 : decode cX7_row 38 = .ok (.invokestatic 123, 3) := by decide +kernel
theorem dX7_row_41 : decode cX7_row 41 = .ok (.iconst (-1), 1) := by decide +kernel
theorem dX7_row_42 : decode cX7_row 42 = .ok (.if_icmp .eq 13, 3) := by decide +kernel
theorem dX7_row_45 : decode cX7_row 45 = .ok (.new 59, 3) := by decide +kernel
theorem dX7_row_48 : decode cX7_row 48 = .ok (.dup, 1) := by decide +kernel
theorem dX7_row_49 : decode cX7_row 49 = .ok (.ldc 129, 2) := by decide +kernel
theorem dX7_row_51 : decode cX7_row 51 = .ok (.invokespecial 63, 3) := by decide +kernel
theorem dX7_row_54 : decode cX7_row 54 = .ok (.athrow, 1) := by decide +kernel
theorem dX7_row_55 : decode cX7_row 55 = .ok (.aload_n 0, 1) := by decide +kernel
theorem dX7_row_56 : decode cX7_row 56 = .ok (.iload_n 1, 1) := by decide +kernel
theorem dX7_row_57 : decode cX7_row 57 = .ok (.iconst 0, 1) := by decide +kernel
theorem dX7_row_58 : decode cX7_row 58 = .ok (.invokevirtual 131, 3) := by decide +kernel
theorem dX7_row_61 : decode cX7_row 61 = .ok (.ireturn, 1) := by decide +kernel
theorem dX7_extension_0 : decode cX7_extension 0 = .ok (.iload_n 1, 1) := by decide +kernel
theorem dX7_extension_1 : decode cX7_extension 1 = .ok (.bipush (-128), 2) := by decide +kernel
theorem dX7_extension_3 : decode cX7_extension 3 = .ok (.if_icmp .lt 18, 3) := by decide +kernel
theorem dX7_extension_6 : decode cX7_extension 6 = .ok (.iload_n 1, 1) := by decide +kernel
theorem dX7_extension_7 : decode cX7_extension 7 = .ok (.bipush 127, 2) := by decide +kernel
theorem dX7_extension_9 : decode cX7_extension 9 = .ok (.if_icmp .gt 12, 3) := by decide +kernel
theorem dX7_extension_12 : decode cX7_extension 12 = .ok (.iload_n 1, 1) := by decide +kernel
theorem dX7_extension_13 : decode cX7_extension 13 = .ok (.iconst (-1), 1) := by decide +kernel
theorem dX7_extension_14 : decode cX7_extension 14 = .ok (.if_icmp .eq 7, 3) := by decide +kernel
theorem dX7_extension_17 : decode cX7_extension 17 = .ok (.iload_n 1, 1) := by decide +kernel
theorem dX7_extension_18 : decode cX7_extension 18 = .ok (.ifCond .ne 13, 3) := by decide +kernel
theorem dX7_extension_21 : decode cX7_extension 21 = .ok (.new 59, 3) := by decide +kernel
theorem dX7_extension_24 : decode cX7_extension 24 = .ok (.dup, 1) := by decide +kernel
theorem dX7_extension_25 : decode cX7_extension 25 = .ok (.ldc 135, 2) := by decide +kernel
theorem dX7_extension_27 : decode cX7_extension 27 = .ok (.invokespecial 63, 3) := by decide +kernel
theorem dX7_extension_30 : decode cX7_extension 30 = .ok (.athrow, 1) := by decide +kernel
theorem dX7_extension_31 : decode cX7_extension 31 = .ok (.aload_n 0, 1) := by decide +kernel
theorem dX7_extension_32 : decode cX7_extension 32 = .ok (.bipush 9, 2) := by decide +kernel
theorem dX7_extension_34 : decode cX7_extension 34 = .ok (.iload_n 1, 1) := by decide +kernel
theorem dX7_extension_35 : decode cX7_extension 35 = .ok (.invokevirtual 131, 3) := by decide +kernel
theorem dX7_extension_38 : decode cX7_extension 38 = .ok (.ireturn, 1) := by decide +kernel
theorem dX7_time_0 : decode cX7_time 0 = .ok (.iload_n 3, 1) := by decide +kernel
theorem dX7_time_1 : decode cX7_time 1 = .ok (.ifCond .lt 9, 3) := by decide +kernel
theorem dX7_time_4 : decode cX7_time 4 = .ok (.iload_n 3, 1) := by decide +kernel
theorem dX7_time_5 : decode cX7_time 5 = .ok (.ldc 137, 2) := by decide +kernel
theorem dX7_time_7 : decode cX7_time 7 = .ok (.if_icmp .le 13, 3) := by decide +kernel
theorem dX7_time_10 : decode cX7_time 10 = .ok (.new 59, 3) := by decide +kernel
theorem dX7_time_13 : decode cX7_time 13 = .ok (.dup, 1) := by decide +kernel
theorem dX7_time_14 : decode cX7_time 14 = .ok (.ldc 138, 2) := by decide +kernel
theorem dX7_time_16 : decode cX7_time 16 = .ok (.invokespecial 63, 3) := by decide +kernel
theorem dX7_time_19 : decode cX7_time 19 = .ok (.athrow, 1) := by decide +kernel
theorem dX7_time_20 : decode cX7_time 20 = .ok (.aload_n 0, 1) := by decide +kernel
theorem dX7_time_21 : decode cX7_time 21 = .ok (.iconst 0, 1) := by decide +kernel
theorem dX7_time_22 : decode cX7_time 22 = .ok (.invokevirtual 108, 3) := by decide +kernel
theorem dX7_time_25 : decode cX7_time 25 = .ok (.aload_n 0, 1) := by decide +kernel
theorem dX7_time_26 : decode cX7_time 26 = .ok (.getfield 19, 3) := by decide +kernel
theorem dX7_time_29 : decode cX7_time 29 = .ok (.bipush 10, 2) := by decide +kernel
theorem dX7_time_31 : decode cX7_time 31 = .ok (.lload_n 1, 1) := by decide +kernel
theorem dX7_time_32 : decode cX7_time 32 = .ok (.iload_n 3, 1) := by decide +kernel
theorem dX7_time_33 : decode cX7_time 33 = .ok (.getstatic 111, 3) := by decide +kernel
theorem dX7_time_36 : decode cX7_time 36 = .ok (.invokevirtual 115, 3) := by decide +kernel
theorem dX7_time_39 : decode cX7_time 39 = .ok (.ireturn, 1) := by decide +kernel
theorem dX7_group_0 : decode cX7_group 0 = .ok (.iload_n 1, 1) := by decide +kernel
theorem dX7_group_1 : decode cX7_group 1 = .ok (.bipush 7, 2) := by decide +kernel
theorem dX7_group_3 : decode cX7_group 3 = .ok (.if_icmp .eq 19, 3) := by decide +kernel
theorem dX7_group_6 : decode cX7_group 6 = .ok (.iload_n 1, 1) := by decide +kernel
theorem dX7_group_7 : decode cX7_group 7 = .ok (.bipush 8, 2) := by decide +kernel
theorem dX7_group_9 : decode cX7_group 9 = .ok (.if_icmp .eq 13, 3) := by decide +kernel
theorem dX7_group_12 : decode cX7_group 12 = .ok (.new 59, 3) := by decide +kernel
theorem dX7_group_15 : decode cX7_group 15 = .ok (.dup, 1) := by decide +kernel
theorem dX7_group_16 : decode cX7_group 16 = .ok (.ldc 140, 2) := by decide +kernel
theorem dX7_group_18 : decode cX7_group 18 = .ok (.invokespecial 63, 3) := by decide +kernel
theorem dX7_group_21 : decode cX7_group 21 = .ok (.athrow, 1) := by decide +kernel
theorem dX7_group_22 : decode cX7_group 22 = .ok (.aload_n 0, 1) := by decide +kernel
theorem dX7_group_23 : decode cX7_group 23 = .ok (.iconst 0, 1) := by decide +kernel
theorem dX7_group_24 : decode cX7_group 24 = .ok (.invokevirtual 108, 3) := by decide +kernel
theorem dX7_group_27 : decode cX7_group 27 = .ok (.aload_n 0, 1) := by decide +kernel
theorem dX7_group_28 : decode cX7_group 28 = .ok (.getfield 19, 3) := by decide +kernel
theorem dX7_group_31 : decode cX7_group 31 = .ok (.iload_n 1, 1) := by decide +kernel
theorem dX7_group_32 : decode cX7_group 32 = .ok (.lconst 0, 1) := by decide +kernel
theorem dX7_group_33 : decode cX7_group 33 = .ok (.iconst 0, 1) := by decide +kernel
theorem dX7_group_34 : decode cX7_group 34 = .ok (.getstatic 111, 3) := by decide +kernel
theorem dX7_group_37 : decode cX7_group 37 = .ok (.invokevirtual 115, 3) := by decide +kernel
theorem dX7_group_40 : decode cX7_group 40 = .ok (.ireturn, 1) := by decide +kernel
theorem dX7_add_0 : decode cX7_add 0 = .ok (.aload_n 0, 1) := by decide +kernel
theorem dX7_add_1 : decode cX7_add 1 = .ok (.iload_n 1, 1) := by decide +kernel
theorem dX7_add_2 : decode cX7_add 2 = .ok (.invokevirtual 90, 3) := by decide +kernel
theorem dX7_add_5 : decode cX7_add 5 = .ok (.aload_n 0, 1) := by decide +kernel
theorem dX7_add_6 : decode cX7_add 6 = .ok (.iload_n 2, 1) := by decide +kernel
theorem dX7_add_7 : decode cX7_add 7 = .ok (.invokevirtual 90, 3) := by decide +kernel
theorem dX7_add_10 : decode cX7_add 10 = .ok (.aload_n 0, 1) := by decide +kernel
theorem dX7_add_11 : decode cX7_add 11 = .ok (.iload_n 1, 1) := by decide +kernel
theorem dX7_add_12 : decode cX7_add 12 = .ok (.bipush 7, 2) := by decide +kernel
theorem dX7_add_14 : decode cX7_add 14 = .ok (.invokevirtual 142, 3) := by decide +kernel
theorem dX7_add_17 : decode cX7_add 17 = .ok (.aload_n 0, 1) := by decide +kernel
theorem dX7_add_18 : decode cX7_add 18 = .ok (.iconst 1, 1) := by decide +kernel
theorem dX7_add_19 : decode cX7_add 19 = .ok (.invokevirtual 146, 3) := by decide +kernel
theorem dX7_add_22 : decode cX7_add 22 = .ok (.aload_n 0, 1) := by decide +kernel
theorem dX7_add_23 : decode cX7_add 23 = .ok (.getfield 19, 3) := by decide +kernel
theorem dX7_add_26 : decode cX7_add 26 = .ok (.iconst 1, 1) := by decide +kernel
theorem dX7_add_27 : decode cX7_add 27 = .ok (.invokevirtual 149, 3) := by decide +kernel
theorem dX7_add_30 : decode cX7_add 30 = .ok (.aload_n 0, 1) := by decide +kernel
theorem dX7_add_31 : decode cX7_add 31 = .ok (.getfield 19, 3) := by decide +kernel
theorem dX7_add_34 : decode cX7_add 34 = .ok (.iload_n 1, 1) := by decide +kernel
theorem dX7_add_35 : decode cX7_add 35 = .ok (.invokevirtual 152, 3) := by decide +kernel
theorem dX7_add_38 : decode cX7_add 38 = .ok (.astore_n 3, 1) := by decide +kernel
theorem dX7_add_39 : decode cX7_add 39 = .ok (.aload_n 3, 1) := by decide +kernel
theorem dX7_add_40 : decode cX7_add 40 = .ok (.iload_n 2, 1) := by decide +kernel
theorem dX7_add_41 : decode cX7_add 41 = .ok (.invokevirtual 155, 3) := by decide +kernel
theorem dX7_add_44 : decode cX7_add 44 = .ok (.aload_n 3, 1) := by decide +kernel
theorem dX7_add_45 : decode cX7_add 45 = .ok (.invokevirtual 159, 3) := by decide +kernel
theorem dX7_add_48 : decode cX7_add 48 = .ok (.ireturn, 1) := by decide +kernel
theorem dX7_put_0 : decode cX7_put 0 = .ok (.aload_n 0, 1) := by decide +kernel
theorem dX7_put_1 : decode cX7_put 1 = .ok (.iload_n 1, 1) := by decide +kernel
theorem dX7_put_2 : decode cX7_put 2 = .ok (.invokevirtual 90, 3) := by decide +kernel
theorem dX7_put_5 : decode cX7_put 5 = .ok (.aload_n 0, 1) := by decide +kernel
theorem dX7_put_6 : decode cX7_put 6 = .ok (.iload_n 2, 1) := by decide +kernel
theorem dX7_put_7 : decode cX7_put 7 = .ok (.invokevirtual 90, 3) := by decide +kernel
theorem dX7_put_10 : decode cX7_put 10 = .ok (.aload_n 0, 1) := by decide +kernel
theorem dX7_put_11 : decode cX7_put 11 = .ok (.iload_n 3, 1) := by decide +kernel
theorem dX7_put_12 : decode cX7_put 12 = .ok (.invokevirtual 90, 3) := by decide +kernel
theorem dX7_put_15 : decode cX7_put 15 = .ok (.aload_n 0, 1) := by decide +kernel
theorem dX7_put_16 : decode cX7_put 16 = .ok (.iload_n 1, 1) := by decide +kernel
theorem dX7_put_17 : decode cX7_put 17 = .ok (.bipush 8, 2) := by decide +kernel
theorem dX7_put_19 : decode cX7_put 19 = .ok (.invokevirtual 142, 3) := by decide +kernel
theorem dX7_put_22 : decode cX7_put 22 = .ok (.aload_n 0, 1) := by decide +kernel
theorem dX7_put_23 : decode cX7_put 23 = .ok (.iconst 2, 1) := by decide +kernel
theorem dX7_put_24 : decode cX7_put 24 = .ok (.invokevirtual 146, 3) := by decide +kernel
theorem dX7_put_27 : decode cX7_put 27 = .ok (.aload_n 0, 1) := by decide +kernel
theorem dX7_put_28 : decode cX7_put 28 = .ok (.getfield 19, 3) := by decide +kernel
theorem dX7_put_31 : decode cX7_put 31 = .ok (.iconst 2, 1) := by decide +kernel
theorem dX7_put_32 : decode cX7_put 32 = .ok (.invokevirtual 149, 3) := by decide +kernel
theorem dX7_put_35 : decode cX7_put 35 = .ok (.aload_n 0, 1) := by decide +kernel
theorem dX7_put_36 : decode cX7_put 36 = .ok (.getfield 19, 3) := by decide +kernel
theorem dX7_put_39 : decode cX7_put 39 = .ok (.iload_n 1, 1) := by decide +kernel
theorem dX7_put_40 : decode cX7_put 40 = .ok (.invokevirtual 152, 3) := by decide +kernel
theorem dX7_put_43 : decode cX7_put 43 = .ok (.astore 4, 2) := by decide +kernel
theorem dX7_put_45 : decode cX7_put 45 = .ok (.aload 4, 2) := by decide +kernel
theorem dX7_put_47 : decode cX7_put 47 = .ok (.iload_n 2, 1) := by decide +kernel
theorem dX7_put_48 : decode cX7_put 48 = .ok (.invokevirtual 155, 3) := by decide +kernel
theorem dX7_put_51 : decode cX7_put 51 = .ok (.aload 4, 2) := by decide +kernel
theorem dX7_put_53 : decode cX7_put 53 = .ok (.iload_n 3, 1) := by decide +kernel
theorem dX7_put_54 : decode cX7_put 54 = .ok (.invokevirtual 155, 3) := by decide +kernel
theorem dX7_put_57 : decode cX7_put 57 = .ok (.aload 4, 2) := by decide +kernel
theorem dX7_put_59 : decode cX7_put 59 = .ok (.invokevirtual 159, 3) := by decide +kernel
theorem dX7_put_62 : decode cX7_put 62 = .ok (.ireturn, 1) := by decide +kernel
theorem dX7_about_0 : decode cX7_about 0 = .ok (.aload_n 0, 1) := by decide +kernel
theorem dX7_about_1 : decode cX7_about 1 = .ok (.iload_n 1, 1) := by decide +kernel
theorem dX7_about_2 : decode cX7_about 2 = .ok (.invokevirtual 90, 3) := by decide +kernel
theorem dX7_about_5 : decode cX7_about 5 = .ok (.aload_n 0, 1) := by decide +kernel
theorem dX7_about_6 : decode cX7_about 6 = .ok (.getfield 19, 3) := by decide +kernel
theorem dX7_about_9 : decode cX7_about 9 = .ok (.iload_n 1, 1) := by decide +kernel
theorem dX7_about_10 : decode cX7_about 10 = .ok (.invokevirtual 152, 3) := by decide +kernel
theorem dX7_about_13 : decode cX7_about 13 = .ok (.astore_n 3, 1) := by decide +kernel
theorem dX7_about_14 : decode cX7_about 14 = .ok (.iload_n 2, 1) := by decide +kernel
theorem dX7_about_15 : decode cX7_about 15 = .ok (.tableswitch 95 0 3 #[29, 34, 39, 56], 29) := by decide +kernel
theorem dX7_about_44 : decode cX7_about 44 = .ok (.aload_n 3, 1) := by decide +kernel
theorem dX7_about_45 : decode cX7_about 45 = .ok (.getfield 162, 3) := by decide +kernel
theorem dX7_about_48 : decode cX7_about 48 = .ok (.ireturn, 1) := by decide +kernel
theorem dX7_about_49 : decode cX7_about 49 = .ok (.aload_n 3, 1) := by decide +kernel
theorem dX7_about_50 : decode cX7_about 50 = .ok (.invokevirtual 159, 3) := by decide +kernel
theorem dX7_about_53 : decode cX7_about 53 = .ok (.ireturn, 1) := by decide +kernel
theorem dX7_about_54 : decode cX7_about 54 = .ok (.aload_n 3, 1) := by decide +kernel
theorem dX7_about_55 : decode cX7_about 55 = .ok (.getfield 162, 3) := by decide +kernel
theorem dX7_about_58 : decode cX7_about 58 = .ok (.iconst 2, 1) := by decide +kernel
theorem dX7_about_59 : decode cX7_about 59 = .ok (.if_icmp .ne 7, 3) := by decide +kernel
theorem dX7_about_62 : decode cX7_about 62 = .ok (.iconst 0, 1) := by decide +kernel
theorem dX7_about_63 : decode cX7_about 63 = .ok (.goto 7, 3) := by decide +kernel
theorem dX7_about_66 : decode cX7_about 66 = .ok (.aload_n 3, 1) := by decide +kernel
theorem dX7_about_67 : decode cX7_about 67 = .ok (.getfield 165, 3) := by decide +kernel
theorem dX7_about_70 : decode cX7_about 70 = .ok (.ireturn, 1) := by decide +kernel
theorem dX7_about_71 : decode cX7_about 71 = .ok (.aload_n 3, 1) := by decide +kernel
theorem dX7_about_72 : decode cX7_about 72 = .ok (.invokevirtual 168, 3) := by decide +kernel
theorem dX7_about_75 : decode cX7_about 75 = .ok (.ifCond .ne 20, 3) := by decide +kernel
theorem dX7_about_78 : decode cX7_about 78 = .ok (.aload_n 0, 1) := by decide +kernel
theorem dX7_about_79 : decode cX7_about 79 = .ok (.getfield 37, 3) := by decide +kernel
theorem dX7_about_82 : decode cX7_about 82 = .ok (.aload_n 0, 1) := by decide +kernel
theorem dX7_about_83 : decode cX7_about 83 = .ok (.getfield 19, 3) := by decide +kernel
theorem dX7_about_86 : decode cX7_about 86 = .ok (.iload_n 1, 1) := by decide +kernel
theorem dX7_about_87 : decode cX7_about 87 = .ok (.ldc 47, 2) := by decide +kernel
theorem dX7_about_89 : decode cX7_about 89 = .ok (.invokevirtual 93, 3) := by decide +kernel
theorem dX7_about_92 : decode cX7_about 92 = .ok (.ifCond .ne 7, 3) := by decide +kernel
theorem dX7_about_95 : decode cX7_about 95 = .ok (.iconst 0, 1) := by decide +kernel
theorem dX7_about_96 : decode cX7_about 96 = .ok (.goto 13, 3) := by decide +kernel
theorem dX7_about_99 : decode cX7_about 99 = .ok (.aload_n 0, 1) := by decide +kernel
theorem dX7_about_100 : decode cX7_about 100 = .ok (.getfield 37, 3) := by decide +kernel
theorem dX7_about_103 : decode cX7_about 103 = .ok (.getfield 99, 3) := by decide +kernel
theorem dX7_about_106 : decode cX7_about 106 = .ok (.invokevirtual 43, 3) := by decide +kernel
theorem dX7_about_109 : decode cX7_about 109 = .ok (.ireturn, 1) := by decide +kernel
theorem dX7_about_110 : decode cX7_about 110 = .ok (.new 59, 3) := by decide +kernel
theorem dX7_about_113 : decode cX7_about 113 = .ok (.dup, 1) := by decide +kernel
theorem dX7_about_114 : decode cX7_about 114 = .ok (.ldc 172, 2) := by decide +kernel
theorem dX7_about_116 : decode cX7_about 116 = .ok (.invokespecial 63, 3) := by decide +kernel
theorem dX7_about_119 : decode cX7_about 119 = .ok (.athrow, 1) := by decide +kernel
theorem dX7_number_0 : decode cX7_number 0 = .ok (.aload_n 0, 1) := by decide +kernel
theorem dX7_number_1 : decode cX7_number 1 = .ok (.iload_n 1, 1) := by decide +kernel
theorem dX7_number_2 : decode cX7_number 2 = .ok (.invokevirtual 90, 3) := by decide +kernel
theorem dX7_number_5 : decode cX7_number 5 = .ok (.aload_n 0, 1) := by decide +kernel
theorem dX7_number_6 : decode cX7_number 6 = .ok (.getfield 19, 3) := by decide +kernel
theorem dX7_number_9 : decode cX7_number 9 = .ok (.iload_n 1, 1) := by decide +kernel
theorem dX7_number_10 : decode cX7_number 10 = .ok (.invokevirtual 152, 3) := by decide +kernel
theorem dX7_number_13 : decode cX7_number 13 = .ok (.astore_n 2, 1) := by decide +kernel
theorem dX7_number_14 : decode cX7_number 14 = .ok (.aload_n 2, 1) := by decide +kernel
theorem dX7_number_15 : decode cX7_number 15 = .ok (.getfield 162, 3) := by decide +kernel
theorem dX7_number_18 : decode cX7_number 18 = .ok (.iconst 2, 1) := by decide +kernel
theorem dX7_number_19 : decode cX7_number 19 = .ok (.if_icmp .eq 38, 3) := by decide +kernel
theorem dX7_number_22 : decode cX7_number 22 = .ok (.aload_n 2, 1) := by decide +kernel
theorem dX7_number_23 : decode cX7_number 23 = .ok (.getfield 162, 3) := by decide +kernel
theorem dX7_number_26 : decode cX7_number 26 = .ok (.iconst 3, 1) := by decide +kernel
theorem dX7_number_27 : decode cX7_number 27 = .ok (.if_icmp .eq 30, 3) := by decide +kernel
theorem dX7_number_30 : decode cX7_number 30 = .ok (.aload_n 2, 1) := by decide +kernel
theorem dX7_number_31 : decode cX7_number 31 = .ok (.getfield 162, 3) := by decide +kernel
theorem dX7_number_34 : decode cX7_number 34 = .ok (.iconst 4, 1) := by decide +kernel
theorem dX7_number_35 : decode cX7_number 35 = .ok (.if_icmp .eq 22, 3) := by decide +kernel
theorem dX7_number_38 : decode cX7_number 38 = .ok (.aload_n 2, 1) := by decide +kernel
theorem dX7_number_39 : decode cX7_number 39 = .ok (.getfield 162, 3) := by decide +kernel
theorem dX7_number_42 : decode cX7_number 42 = .ok (.bipush 10, 2) := by decide +kernel
theorem dX7_number_44 : decode cX7_number 44 = .ok (.if_icmp .eq 13, 3) := by decide +kernel
theorem dX7_number_47 : decode cX7_number 47 = .ok (.new 59, 3) := by decide +kernel
theorem dX7_number_50 : decode cX7_number 50 = .ok (.dup, 1) := by decide +kernel
theorem dX7_number_51 : decode cX7_number 51 = .ok (.ldc 174, 2) := by decide +kernel
theorem dX7_number_53 : decode cX7_number 53 = .ok (.invokespecial 63, 3) := by decide +kernel
theorem dX7_number_56 : decode cX7_number 56 = .ok (.athrow, 1) := by decide +kernel
theorem dX7_number_57 : decode cX7_number 57 = .ok (.aload_n 2, 1) := by decide +kernel
theorem dX7_number_58 : decode cX7_number 58 = .ok (.invokevirtual 176, 3) := by decide +kernel
theorem dX7_number_61 : decode cX7_number 61 = .ok (.ifCond .eq 13, 3) := by decide +kernel
theorem dX7_number_64 : decode cX7_number 64 = .ok (.new 179, 3) := by decide +kernel
theorem dX7_number_67 : decode cX7_number 67 = .ok (.dup, 1) := by decide +kernel
theorem dX7_number_68 : decode cX7_number 68 = .ok (.ldc 181, 2) := by decide +kernel
theorem dX7_number_70 : decode cX7_number 70 = .ok (.invokespecial 183, 3) := by decide +kernel
theorem dX7_number_73 : decode cX7_number 73 = .ok (.athrow, 1) := by decide +kernel
theorem dX7_number_74 : decode cX7_number 74 = .ok (.aload_n 2, 1) := by decide +kernel
theorem dX7_number_75 : decode cX7_number 75 = .ok (.getfield 184, 3) := by decide +kernel
theorem dX7_number_78 : decode cX7_number 78 = .ok (.lreturn, 1) := by decide +kernel
theorem dX7_part_0 : decode cX7_part 0 = .ok (.aload_n 0, 1) := by decide +kernel
theorem dX7_part_1 : decode cX7_part 1 = .ok (.iload_n 1, 1) := by decide +kernel
theorem dX7_part_2 : decode cX7_part 2 = .ok (.invokevirtual 90, 3) := by decide +kernel
theorem dX7_part_5 : decode cX7_part 5 = .ok (.aload_n 0, 1) := by decide +kernel
theorem dX7_part_6 : decode cX7_part 6 = .ok (.getfield 19, 3) := by decide +kernel
theorem dX7_part_9 : decode cX7_part 9 = .ok (.iload_n 1, 1) := by decide +kernel
theorem dX7_part_10 : decode cX7_part 10 = .ok (.invokevirtual 152, 3) := by decide +kernel
theorem dX7_part_13 : decode cX7_part 13 = .ok (.astore_n 3, 1) := by decide +kernel
theorem dX7_part_14 : decode cX7_part 14 = .ok (.iload_n 2, 1) := by decide +kernel
theorem dX7_part_15 : decode cX7_part 15 = .ok (.ifCond .lt 23, 3) := by decide +kernel
theorem dX7_part_18 : decode cX7_part 18 = .ok (.iload_n 2, 1) := by decide +kernel
theorem dX7_part_19 : decode cX7_part 19 = .ok (.aload_n 3, 1) := by decide +kernel
theorem dX7_part_20 : decode cX7_part 20 = .ok (.getfield 188, 3) := by decide +kernel
theorem dX7_part_23 : decode cX7_part 23 = .ok (.arraylength, 1) := by decide +kernel
theorem dX7_part_24 : decode cX7_part 24 = .ok (.if_icmp .ge 14, 3) := by decide +kernel
theorem dX7_part_27 : decode cX7_part 27 = .ok (.aload_n 3, 1) := by decide +kernel
theorem dX7_part_28 : decode cX7_part 28 = .ok (.getfield 188, 3) := by decide +kernel
theorem dX7_part_31 : decode cX7_part 31 = .ok (.iload_n 2, 1) := by decide +kernel
theorem dX7_part_32 : decode cX7_part 32 = .ok (.baload, 1) := by decide +kernel
theorem dX7_part_33 : decode cX7_part 33 = .ok (.sipush 255, 3) := by decide +kernel
theorem dX7_part_36 : decode cX7_part 36 = .ok (.iand, 1) := by decide +kernel
theorem dX7_part_37 : decode cX7_part 37 = .ok (.ireturn, 1) := by decide +kernel
theorem dX7_part_38 : decode cX7_part 38 = .ok (.iload_n 2, 1) := by decide +kernel
theorem dX7_part_39 : decode cX7_part 39 = .ok (.ifCond .lt 18, 3) := by decide +kernel
theorem dX7_part_42 : decode cX7_part 42 = .ok (.iload_n 2, 1) := by decide +kernel
theorem dX7_part_43 : decode cX7_part 43 = .ok (.aload_n 3, 1) := by decide +kernel
theorem dX7_part_44 : decode cX7_part 44 = .ok (.getfield 191, 3) := by decide +kernel
theorem dX7_part_47 : decode cX7_part 47 = .ok (.if_icmp .ge 10, 3) := by decide +kernel
theorem dX7_part_50 : decode cX7_part 50 = .ok (.aload_n 3, 1) := by decide +kernel
theorem dX7_part_51 : decode cX7_part 51 = .ok (.getfield 194, 3) := by decide +kernel
theorem dX7_part_54 : decode cX7_part 54 = .ok (.iload_n 2, 1) := by decide +kernel
theorem dX7_part_55 : decode cX7_part 55 = .ok (.iaload, 1) := by decide +kernel
theorem dX7_part_56 : decode cX7_part 56 = .ok (.ireturn, 1) := by decide +kernel
theorem dX7_part_57 : decode cX7_part 57 = .ok (.new 72, 3) := by decide +kernel
theorem dX7_part_60 : decode cX7_part 60 = .ok (.dup, 1) := by decide +kernel
theorem dX7_part_61 : decode cX7_part 61 = .ok (.ldc 198, 2) := by decide +kernel
theorem dX7_part_63 : decode cX7_part 63 = .ok (.invokespecial 76, 3) := by decide +kernel
theorem dX7_part_66 : decode cX7_part 66 = .ok (.athrow, 1) := by decide +kernel
theorem dX7_same_0 : decode cX7_same 0 = .ok (.aload_n 0, 1) := by decide +kernel
theorem dX7_same_1 : decode cX7_same 1 = .ok (.iload_n 1, 1) := by decide +kernel
theorem dX7_same_2 : decode cX7_same 2 = .ok (.invokevirtual 90, 3) := by decide +kernel
theorem dX7_same_5 : decode cX7_same 5 = .ok (.aload_n 0, 1) := by decide +kernel
theorem dX7_same_6 : decode cX7_same 6 = .ok (.iload_n 2, 1) := by decide +kernel
theorem dX7_same_7 : decode cX7_same 7 = .ok (.invokevirtual 90, 3) := by decide +kernel
theorem dX7_same_10 : decode cX7_same 10 = .ok (.aload_n 0, 1) := by decide +kernel
theorem dX7_same_11 : decode cX7_same 11 = .ok (.getfield 37, 3) := by decide +kernel
theorem dX7_same_14 : decode cX7_same 14 = .ok (.aload_n 0, 1) := by decide +kernel
theorem dX7_same_15 : decode cX7_same 15 = .ok (.getfield 19, 3) := by decide +kernel
theorem dX7_same_18 : decode cX7_same 18 = .ok (.iload_n 1, 1) := by decide +kernel
theorem dX7_same_19 : decode cX7_same 19 = .ok (.ldc 47, 2) := by decide +kernel
theorem dX7_same_21 : decode cX7_same 21 = .ok (.invokevirtual 93, 3) := by decide +kernel
theorem dX7_same_24 : decode cX7_same 24 = .ok (.ifCond .eq 20, 3) := by decide +kernel
theorem dX7_same_27 : decode cX7_same 27 = .ok (.aload_n 0, 1) := by decide +kernel
theorem dX7_same_28 : decode cX7_same 28 = .ok (.getfield 40, 3) := by decide +kernel
theorem dX7_same_31 : decode cX7_same 31 = .ok (.aload_n 0, 1) := by decide +kernel
theorem dX7_same_32 : decode cX7_same 32 = .ok (.getfield 19, 3) := by decide +kernel
theorem dX7_same_35 : decode cX7_same 35 = .ok (.iload_n 2, 1) := by decide +kernel
theorem dX7_same_36 : decode cX7_same 36 = .ok (.ldc 47, 2) := by decide +kernel
theorem dX7_same_38 : decode cX7_same 38 = .ok (.invokevirtual 93, 3) := by decide +kernel
theorem dX7_same_41 : decode cX7_same 41 = .ok (.ifCond .ne 13, 3) := by decide +kernel
theorem dX7_same_44 : decode cX7_same 44 = .ok (.new 48, 3) := by decide +kernel
theorem dX7_same_47 : decode cX7_same 47 = .ok (.dup, 1) := by decide +kernel
theorem dX7_same_48 : decode cX7_same 48 = .ok (.ldc 200, 2) := by decide +kernel
theorem dX7_same_50 : decode cX7_same 50 = .ok (.invokespecial 52, 3) := by decide +kernel
theorem dX7_same_53 : decode cX7_same 53 = .ok (.athrow, 1) := by decide +kernel
theorem dX7_same_54 : decode cX7_same 54 = .ok (.aload_n 0, 1) := by decide +kernel
theorem dX7_same_55 : decode cX7_same 55 = .ok (.getfield 37, 3) := by decide +kernel
theorem dX7_same_58 : decode cX7_same 58 = .ok (.getfield 99, 3) := by decide +kernel
theorem dX7_same_61 : decode cX7_same 61 = .ok (.aload_n 0, 1) := by decide +kernel
theorem dX7_same_62 : decode cX7_same 62 = .ok (.getfield 40, 3) := by decide +kernel
theorem dX7_same_65 : decode cX7_same 65 = .ok (.getfield 99, 3) := by decide +kernel
theorem dX7_same_68 : decode cX7_same 68 = .ok (.invokevirtual 202, 3) := by decide +kernel
theorem dX7_same_71 : decode cX7_same 71 = .ok (.ireturn, 1) := by decide +kernel
theorem dX7_find_0 : decode cX7_find 0 = .ok (.aload_n 0, 1) := by decide +kernel
theorem dX7_find_1 : decode cX7_find 1 = .ok (.iload_n 1, 1) := by decide +kernel
theorem dX7_find_2 : decode cX7_find 2 = .ok (.invokevirtual 90, 3) := by decide +kernel
theorem dX7_find_5 : decode cX7_find 5 = .ok (.aload_n 0, 1) := by decide +kernel
theorem dX7_find_6 : decode cX7_find 6 = .ok (.iload_n 2, 1) := by decide +kernel
theorem dX7_find_7 : decode cX7_find 7 = .ok (.invokevirtual 90, 3) := by decide +kernel
theorem dX7_find_10 : decode cX7_find 10 = .ok (.aload_n 0, 1) := by decide +kernel
theorem dX7_find_11 : decode cX7_find 11 = .ok (.iload_n 1, 1) := by decide +kernel
theorem dX7_find_12 : decode cX7_find 12 = .ok (.bipush 8, 2) := by decide +kernel
theorem dX7_find_14 : decode cX7_find 14 = .ok (.invokevirtual 142, 3) := by decide +kernel
theorem dX7_find_17 : decode cX7_find 17 = .ok (.aload_n 0, 1) := by decide +kernel
theorem dX7_find_18 : decode cX7_find 18 = .ok (.getfield 37, 3) := by decide +kernel
theorem dX7_find_21 : decode cX7_find 21 = .ok (.aload_n 0, 1) := by decide +kernel
theorem dX7_find_22 : decode cX7_find 22 = .ok (.getfield 19, 3) := by decide +kernel
theorem dX7_find_25 : decode cX7_find 25 = .ok (.iload_n 2, 1) := by decide +kernel
theorem dX7_find_26 : decode cX7_find 26 = .ok (.ldc 47, 2) := by decide +kernel
theorem dX7_find_28 : decode cX7_find 28 = .ok (.invokevirtual 93, 3) := by decide +kernel
theorem dX7_find_31 : decode cX7_find 31 = .ok (.ifCond .ne 13, 3) := by decide +kernel
theorem dX7_find_34 : decode cX7_find 34 = .ok (.new 48, 3) := by decide +kernel
theorem dX7_find_37 : decode cX7_find 37 = .ok (.dup, 1) := by decide +kernel
theorem dX7_find_38 : decode cX7_find 38 = .ok (.ldc 206, 2) := by decide +kernel
theorem dX7_find_40 : decode cX7_find 40 = .ok (.invokespecial 52, 3) := by decide +kernel
theorem dX7_find_43 : decode cX7_find 43 = .ok (.athrow, 1) := by decide +kernel
theorem dX7_find_44 : decode cX7_find 44 = .ok (.aload_n 0, 1) := by decide +kernel
theorem dX7_find_45 : decode cX7_find 45 = .ok (.getfield 19, 3) := by decide +kernel
theorem dX7_find_48 : decode cX7_find 48 = .ok (.iload_n 1, 1) := by decide +kernel
theorem dX7_find_49 : decode cX7_find 49 = .ok (.invokevirtual 152, 3) := by decide +kernel
theorem dX7_find_52 : decode cX7_find 52 = .ok (.astore_n 3, 1) := by decide +kernel
theorem dX7_find_53 : decode cX7_find 53 = .ok (.aload_n 0, 1) := by decide +kernel
theorem dX7_find_54 : decode cX7_find 54 = .ok (.getfield 37, 3) := by decide +kernel
theorem dX7_find_57 : decode cX7_find 57 = .ok (.getfield 99, 3) := by decide +kernel
theorem dX7_find_60 : decode cX7_find 60 = .ok (.invokevirtual 43, 3) := by decide +kernel
theorem dX7_find_63 : decode cX7_find 63 = .ok (.istore 4, 2) := by decide +kernel
theorem dX7_find_65 : decode cX7_find 65 = .ok (.iconst 0, 1) := by decide +kernel
theorem dX7_find_66 : decode cX7_find 66 = .ok (.istore 5, 2) := by decide +kernel
theorem dX7_find_68 : decode cX7_find 68 = .ok (.iload 5, 2) := by decide +kernel
theorem dX7_find_70 : decode cX7_find 70 = .ok (.iconst 1, 1) := by decide +kernel
theorem dX7_find_71 : decode cX7_find 71 = .ok (.iadd, 1) := by decide +kernel
theorem dX7_find_72 : decode cX7_find 72 = .ok (.aload_n 3, 1) := by decide +kernel
theorem dX7_find_73 : decode cX7_find 73 = .ok (.getfield 191, 3) := by decide +kernel
theorem dX7_find_76 : decode cX7_find 76 = .ok (.if_icmp .ge 62, 3) := by decide +kernel
theorem dX7_find_79 : decode cX7_find 79 = .ok (.aload_n 0, 1) := by decide +kernel
theorem dX7_find_80 : decode cX7_find 80 = .ok (.getfield 40, 3) := by decide +kernel
theorem dX7_find_83 : decode cX7_find 83 = .ok (.aload_n 0, 1) := by decide +kernel
theorem dX7_find_84 : decode cX7_find 84 = .ok (.getfield 19, 3) := by decide +kernel
theorem dX7_find_87 : decode cX7_find 87 = .ok (.aload_n 3, 1) := by decide +kernel
theorem dX7_find_88 : decode cX7_find 88 = .ok (.getfield 194, 3) := by decide +kernel
theorem dX7_find_91 : decode cX7_find 91 = .ok (.iload 5, 2) := by decide +kernel
theorem dX7_find_93 : decode cX7_find 93 = .ok (.iaload, 1) := by decide +kernel
theorem dX7_find_94 : decode cX7_find 94 = .ok (.iload 4, 2) := by decide +kernel
theorem dX7_find_96 : decode cX7_find 96 = .ok (.invokevirtual 93, 3) := by decide +kernel
theorem dX7_find_99 : decode cX7_find 99 = .ok (.ifCond .eq 33, 3) := by decide +kernel
theorem dX7_find_102 : decode cX7_find 102 = .ok (.aload_n 0, 1) := by decide +kernel
theorem dX7_find_103 : decode cX7_find 103 = .ok (.getfield 37, 3) := by decide +kernel
theorem dX7_find_106 : decode cX7_find 106 = .ok (.getfield 99, 3) := by decide +kernel
theorem dX7_find_109 : decode cX7_find 109 = .ok (.aload_n 0, 1) := by decide +kernel
theorem dX7_find_110 : decode cX7_find 110 = .ok (.getfield 40, 3) := by decide +kernel
theorem dX7_find_113 : decode cX7_find 113 = .ok (.getfield 99, 3) := by decide +kernel
theorem dX7_find_116 : decode cX7_find 116 = .ok (.invokevirtual 202, 3) := by decide +kernel
theorem dX7_find_119 : decode cX7_find 119 = .ok (.ifCond .eq 13, 3) := by decide +kernel
theorem dX7_find_122 : decode cX7_find 122 = .ok (.aload_n 3, 1) := by decide +kernel
theorem dX7_find_123 : decode cX7_find 123 = .ok (.getfield 194, 3) := by decide +kernel
theorem dX7_find_126 : decode cX7_find 126 = .ok (.iload 5, 2) := by decide +kernel
theorem dX7_find_128 : decode cX7_find 128 = .ok (.iconst 1, 1) := by decide +kernel
theorem dX7_find_129 : decode cX7_find 129 = .ok (.iadd, 1) := by decide +kernel
theorem dX7_find_130 : decode cX7_find 130 = .ok (.iaload, 1) := by decide +kernel
theorem dX7_find_131 : decode cX7_find 131 = .ok (.ireturn, 1) := by decide +kernel
theorem dX7_find_132 : decode cX7_find 132 = .ok (.iinc 5 2, 3) := by decide +kernel
theorem dX7_find_135 : decode cX7_find 135 = .ok (.goto (-67), 3) := by decide +kernel
theorem dX7_find_138 : decode cX7_find 138 = .ok (.iconst (-1), 1) := by decide +kernel
theorem dX7_find_139 : decode cX7_find 139 = .ok (.ireturn, 1) := by decide +kernel
theorem dX7_count_0 : decode cX7_count 0 = .ok (.iload_n 1, 1) := by decide +kernel
theorem dX7_count_1 : decode cX7_count 1 = .ok (.tableswitch 78 0 4 #[35, 43, 51, 59, 67], 35) := by decide +kernel
theorem dX7_count_36 : decode cX7_count 36 = .ok (.aload_n 0, 1) := by decide +kernel
theorem dX7_count_37 : decode cX7_count 37 = .ok (.getfield 19, 3) := by decide +kernel
theorem dX7_count_40 : decode cX7_count 40 = .ok (.invokevirtual 208, 3) := by decide +kernel
theorem dX7_count_43 : decode cX7_count 43 = .ok (.ireturn, 1) := by decide +kernel
theorem dX7_count_44 : decode cX7_count 44 = .ok (.aload_n 0, 1) := by decide +kernel
theorem dX7_count_45 : decode cX7_count 45 = .ok (.getfield 19, 3) := by decide +kernel
theorem dX7_count_48 : decode cX7_count 48 = .ok (.getfield 209, 3) := by decide +kernel
theorem dX7_count_51 : decode cX7_count 51 = .ok (.ireturn, 1) := by decide +kernel
theorem dX7_count_52 : decode cX7_count 52 = .ok (.aload_n 0, 1) := by decide +kernel
theorem dX7_count_53 : decode cX7_count 53 = .ok (.getfield 19, 3) := by decide +kernel
theorem dX7_count_56 : decode cX7_count 56 = .ok (.getfield 212, 3) := by decide +kernel
theorem dX7_count_59 : decode cX7_count 59 = .ok (.ireturn, 1) := by decide +kernel
theorem dX7_count_60 : decode cX7_count 60 = .ok (.aload_n 0, 1) := by decide +kernel
theorem dX7_count_61 : decode cX7_count 61 = .ok (.getfield 10, 3) := by decide +kernel
theorem dX7_count_64 : decode cX7_count 64 = .ok (.invokevirtual 43, 3) := by decide +kernel
theorem dX7_count_67 : decode cX7_count 67 = .ok (.ireturn, 1) := by decide +kernel
theorem dX7_count_68 : decode cX7_count 68 = .ok (.aload_n 0, 1) := by decide +kernel
theorem dX7_count_69 : decode cX7_count 69 = .ok (.getfield 33, 3) := by decide +kernel
theorem dX7_count_72 : decode cX7_count 72 = .ok (.getfield 99, 3) := by decide +kernel
theorem dX7_count_75 : decode cX7_count 75 = .ok (.invokevirtual 43, 3) := by decide +kernel
theorem dX7_count_78 : decode cX7_count 78 = .ok (.ireturn, 1) := by decide +kernel
theorem dX7_count_79 : decode cX7_count 79 = .ok (.new 59, 3) := by decide +kernel
theorem dX7_count_82 : decode cX7_count 82 = .ok (.dup, 1) := by decide +kernel
theorem dX7_count_83 : decode cX7_count 83 = .ok (.ldc 215, 2) := by decide +kernel
theorem dX7_count_85 : decode cX7_count 85 = .ok (.invokespecial 63, 3) := by decide +kernel
theorem dX7_count_88 : decode cX7_count 88 = .ok (.athrow, 1) := by decide +kernel
theorem dX7_clear_0 : decode cX7_clear 0 = .ok (.aload_n 0, 1) := by decide +kernel
theorem dX7_clear_1 : decode cX7_clear 1 = .ok (.getfield 19, 3) := by decide +kernel
theorem dX7_clear_4 : decode cX7_clear 4 = .ok (.invokevirtual 208, 3) := by decide +kernel
theorem dX7_clear_7 : decode cX7_clear 7 = .ok (.istore_n 1, 1) := by decide +kernel
theorem dX7_clear_8 : decode cX7_clear 8 = .ok (.aload_n 0, 1) := by decide +kernel
theorem dX7_clear_9 : decode cX7_clear 9 = .ok (.getfield 19, 3) := by decide +kernel
theorem dX7_clear_12 : decode cX7_clear 12 = .ok (.iconst 0, 1) := by decide +kernel
theorem dX7_clear_13 : decode cX7_clear 13 = .ok (.iconst 0, 1) := by decide +kernel
theorem dX7_clear_14 : decode cX7_clear 14 = .ok (.iconst 0, 1) := by decide +kernel
theorem dX7_clear_15 : decode cX7_clear 15 = .ok (.invokevirtual 217, 3) := by decide +kernel
theorem dX7_clear_18 : decode cX7_clear 18 = .ok (.iload_n 1, 1) := by decide +kernel
theorem dX7_clear_19 : decode cX7_clear 19 = .ok (.ireturn, 1) := by decide +kernel
theorem dX7_needValue_0 : decode cX7_needValue 0 = .ok (.aload_n 0, 1) := by decide +kernel
theorem dX7_needValue_1 : decode cX7_needValue 1 = .ok (.getfield 19, 3) := by decide +kernel
theorem dX7_needValue_4 : decode cX7_needValue 4 = .ok (.iload_n 1, 1) := by decide +kernel
theorem dX7_needValue_5 : decode cX7_needValue 5 = .ok (.invokevirtual 221, 3) := by decide +kernel
theorem dX7_needValue_8 : decode cX7_needValue 8 = .ok (.ifCond .ne 13, 3) := by decide +kernel
theorem dX7_needValue_11 : decode cX7_needValue 11 = .ok (.new 72, 3) := by decide +kernel
theorem dX7_needValue_14 : decode cX7_needValue 14 = .ok (.dup, 1) := by decide +kernel
theorem dX7_needValue_15 : decode cX7_needValue 15 = .ok (.ldc 225, 2) := by decide +kernel
theorem dX7_needValue_17 : decode cX7_needValue 17 = .ok (.invokespecial 76, 3) := by decide +kernel
theorem dX7_needValue_20 : decode cX7_needValue 20 = .ok (.athrow, 1) := by decide +kernel
theorem dX7_needValue_21 : decode cX7_needValue 21 = .ok (.return_, 1) := by decide +kernel
theorem dX7_needKind_0 : decode cX7_needKind 0 = .ok (.aload_n 0, 1) := by decide +kernel
theorem dX7_needKind_1 : decode cX7_needKind 1 = .ok (.getfield 19, 3) := by decide +kernel
theorem dX7_needKind_4 : decode cX7_needKind 4 = .ok (.iload_n 1, 1) := by decide +kernel
theorem dX7_needKind_5 : decode cX7_needKind 5 = .ok (.invokevirtual 152, 3) := by decide +kernel
theorem dX7_needKind_8 : decode cX7_needKind 8 = .ok (.getfield 162, 3) := by decide +kernel
theorem dX7_needKind_11 : decode cX7_needKind 11 = .ok (.iload_n 2, 1) := by decide +kernel
theorem dX7_needKind_12 : decode cX7_needKind 12 = .ok (.if_icmp .eq 13, 3) := by decide +kernel
theorem dX7_needKind_15 : decode cX7_needKind 15 = .ok (.new 59, 3) := by decide +kernel
theorem dX7_needKind_18 : decode cX7_needKind 18 = .ok (.dup, 1) := by decide +kernel
theorem dX7_needKind_19 : decode cX7_needKind 19 = .ok (.ldc 227, 2) := by decide +kernel
theorem dX7_needKind_21 : decode cX7_needKind 21 = .ok (.invokespecial 63, 3) := by decide +kernel
theorem dX7_needKind_24 : decode cX7_needKind 24 = .ok (.athrow, 1) := by decide +kernel
theorem dX7_needKind_25 : decode cX7_needKind 25 = .ok (.return_, 1) := by decide +kernel
theorem dX7_needRoom_0 : decode cX7_needRoom 0 = .ok (.aload_n 0, 1) := by decide +kernel
theorem dX7_needRoom_1 : decode cX7_needRoom 1 = .ok (.getfield 19, 3) := by decide +kernel
theorem dX7_needRoom_4 : decode cX7_needRoom 4 = .ok (.iload_n 1, 1) := by decide +kernel
theorem dX7_needRoom_5 : decode cX7_needRoom 5 = .ok (.invokevirtual 229, 3) := by decide +kernel
theorem dX7_needRoom_8 : decode cX7_needRoom 8 = .ok (.ifCond .ne 13, 3) := by decide +kernel
theorem dX7_needRoom_11 : decode cX7_needRoom 11 = .ok (.new 48, 3) := by decide +kernel
theorem dX7_needRoom_14 : decode cX7_needRoom 14 = .ok (.dup, 1) := by decide +kernel
theorem dX7_needRoom_15 : decode cX7_needRoom 15 = .ok (.ldc 232, 2) := by decide +kernel
theorem dX7_needRoom_17 : decode cX7_needRoom 17 = .ok (.invokespecial 52, 3) := by decide +kernel
theorem dX7_needRoom_20 : decode cX7_needRoom 20 = .ok (.athrow, 1) := by decide +kernel
theorem dX7_needRoom_21 : decode cX7_needRoom 21 = .ok (.return_, 1) := by decide +kernel
theorem dX7_needParts_0 : decode cX7_needParts 0 = .ok (.aload_n 0, 1) := by decide +kernel
theorem dX7_needParts_1 : decode cX7_needParts 1 = .ok (.getfield 19, 3) := by decide +kernel
theorem dX7_needParts_4 : decode cX7_needParts 4 = .ok (.iload_n 1, 1) := by decide +kernel
theorem dX7_needParts_5 : decode cX7_needParts 5 = .ok (.i2l, 1) := by decide +kernel
theorem dX7_needParts_6 : decode cX7_needParts 6 = .ok (.invokevirtual 234, 3) := by decide +kernel
theorem dX7_needParts_9 : decode cX7_needParts 9 = .ok (.ifCond .ne 13, 3) := by decide +kernel
theorem dX7_needParts_12 : decode cX7_needParts 12 = .ok (.new 48, 3) := by decide +kernel
theorem dX7_needParts_15 : decode cX7_needParts 15 = .ok (.dup, 1) := by decide +kernel
theorem dX7_needParts_16 : decode cX7_needParts 16 = .ok (.ldc 238, 2) := by decide +kernel
theorem dX7_needParts_18 : decode cX7_needParts 18 = .ok (.invokespecial 52, 3) := by decide +kernel
theorem dX7_needParts_21 : decode cX7_needParts 21 = .ok (.athrow, 1) := by decide +kernel
theorem dX7_needParts_22 : decode cX7_needParts 22 = .ok (.return_, 1) := by decide +kernel
theorem dX7_keepTape_0 : decode cX7_keepTape 0 = .ok (.aload_n 0, 1) := by decide +kernel
theorem dX7_keepTape_1 : decode cX7_keepTape 1 = .ok (.aload_n 0, 1) := by decide +kernel
theorem dX7_keepTape_2 : decode cX7_keepTape 2 = .ok (.getfield 10, 3) := by decide +kernel
theorem dX7_keepTape_5 : decode cX7_keepTape 5 = .ok (.invokevirtual 43, 3) := by decide +kernel
theorem dX7_keepTape_8 : decode cX7_keepTape 8 = .ok (.invokevirtual 108, 3) := by decide +kernel
theorem dX7_keepTape_11 : decode cX7_keepTape 11 = .ok (.aload_n 0, 1) := by decide +kernel
theorem dX7_keepTape_12 : decode cX7_keepTape 12 = .ok (.getfield 19, 3) := by decide +kernel
theorem dX7_keepTape_15 : decode cX7_keepTape 15 = .ok (.iload_n 1, 1) := by decide +kernel
theorem dX7_keepTape_16 : decode cX7_keepTape 16 = .ok (.lconst 0, 1) := by decide +kernel
theorem dX7_keepTape_17 : decode cX7_keepTape 17 = .ok (.iload_n 2, 1) := by decide +kernel
theorem dX7_keepTape_18 : decode cX7_keepTape 18 = .ok (.aload_n 0, 1) := by decide +kernel
theorem dX7_keepTape_19 : decode cX7_keepTape 19 = .ok (.getfield 10, 3) := by decide +kernel
theorem dX7_keepTape_22 : decode cX7_keepTape 22 = .ok (.iconst 0, 1) := by decide +kernel
theorem dX7_keepTape_23 : decode cX7_keepTape 23 = .ok (.aload_n 0, 1) := by decide +kernel
theorem dX7_keepTape_24 : decode cX7_keepTape 24 = .ok (.getfield 10, 3) := by decide +kernel
theorem dX7_keepTape_27 : decode cX7_keepTape 27 = .ok (.invokevirtual 43, 3) := by decide +kernel
theorem dX7_keepTape_30 : decode cX7_keepTape 30 = .ok (.invokevirtual 240, 3) := by decide +kernel
theorem dX7_keepTape_33 : decode cX7_keepTape 33 = .ok (.invokevirtual 115, 3) := by decide +kernel
theorem dX7_keepTape_36 : decode cX7_keepTape 36 = .ok (.istore_n 3, 1) := by decide +kernel
theorem dX7_keepTape_37 : decode cX7_keepTape 37 = .ok (.aload_n 0, 1) := by decide +kernel
theorem dX7_keepTape_38 : decode cX7_keepTape 38 = .ok (.getfield 10, 3) := by decide +kernel
theorem dX7_keepTape_41 : decode cX7_keepTape 41 = .ok (.iconst 0, 1) := by decide +kernel
theorem dX7_keepTape_42 : decode cX7_keepTape 42 = .ok (.invokevirtual 64, 3) := by decide +kernel
theorem dX7_keepTape_45 : decode cX7_keepTape 45 = .ok (.iload_n 3, 1) := by decide +kernel
theorem dX7_keepTape_46 : decode cX7_keepTape 46 = .ok (.ireturn, 1) := by decide +kernel
end
section
theorem dX8_init_0 : decode cX8_init 0 = .ok (.aload_n 0, 1) := by decide +kernel
theorem dX8_init_1 : decode cX8_init 1 = .ok (.invokespecial 1, 3) := by decide +kernel
theorem dX8_init_4 : decode cX8_init 4 = .ok (.aload_n 0, 1) := by decide +kernel
theorem dX8_init_5 : decode cX8_init 5 = .ok (.ldc 7, 2) := by decide +kernel
theorem dX8_init_7 : decode cX8_init 7 = .ok (.newarray .byte, 2) := by decide +kernel
theorem dX8_init_9 : decode cX8_init 9 = .ok (.putfield 8, 3) := by decide +kernel
theorem dX8_init_12 : decode cX8_init 12 = .ok (.aload_n 0, 1) := by decide +kernel
theorem dX8_init_13 : decode cX8_init 13 = .ok (.ldc 7, 2) := by decide +kernel
theorem dX8_init_15 : decode cX8_init 15 = .ok (.newarray .byte, 2) := by decide +kernel
theorem dX8_init_17 : decode cX8_init 17 = .ok (.putfield 14, 3) := by decide +kernel
theorem dX8_init_20 : decode cX8_init 20 = .ok (.aload_n 0, 1) := by decide +kernel
theorem dX8_init_21 : decode cX8_init 21 = .ok (.sipush 3000, 3) := by decide +kernel
theorem dX8_init_24 : decode cX8_init 24 = .ok (.newarray .int, 2) := by decide +kernel
theorem dX8_init_26 : decode cX8_init 26 = .ok (.putfield 17, 3) := by decide +kernel
theorem dX8_init_29 : decode cX8_init 29 = .ok (.aload_n 0, 1) := by decide +kernel
theorem dX8_init_30 : decode cX8_init 30 = .ok (.sipush 3000, 3) := by decide +kernel
theorem dX8_init_33 : decode cX8_init 33 = .ok (.newarray .long, 2) := by decide +kernel
theorem dX8_init_35 : decode cX8_init 35 = .ok (.putfield 21, 3) := by decide +kernel
theorem dX8_init_38 : decode cX8_init 38 = .ok (.aload_n 0, 1) := by decide +kernel
theorem dX8_init_39 : decode cX8_init 39 = .ok (.sipush 3000, 3) := by decide +kernel
theorem dX8_init_42 : decode cX8_init 42 = .ok (.newarray .boolean, 2) := by decide +kernel
theorem dX8_init_44 : decode cX8_init 44 = .ok (.putfield 25, 3) := by decide +kernel
theorem dX8_init_47 : decode cX8_init 47 = .ok (.aload_n 0, 1) := by decide +kernel
theorem dX8_init_48 : decode cX8_init 48 = .ok (.sipush 3000, 3) := by decide +kernel
theorem dX8_init_51 : decode cX8_init 51 = .ok (.newarray .int, 2) := by decide +kernel
theorem dX8_init_53 : decode cX8_init 53 = .ok (.putfield 29, 3) := by decide +kernel
theorem dX8_init_56 : decode cX8_init 56 = .ok (.aload_n 0, 1) := by decide +kernel
theorem dX8_init_57 : decode cX8_init 57 = .ok (.sipush 3000, 3) := by decide +kernel
theorem dX8_init_60 : decode cX8_init 60 = .ok (.newarray .int, 2) := by decide +kernel
theorem dX8_init_62 : decode cX8_init 62 = .ok (.putfield 32, 3) := by decide +kernel
theorem dX8_init_65 : decode cX8_init 65 = .ok (.aload_n 0, 1) := by decide +kernel
theorem dX8_init_66 : decode cX8_init 66 = .ok (.sipush 3000, 3) := by decide +kernel
theorem dX8_init_69 : decode cX8_init 69 = .ok (.newarray .int, 2) := by decide +kernel
theorem dX8_init_71 : decode cX8_init 71 = .ok (.putfield 35, 3) := by decide +kernel
theorem dX8_init_74 : decode cX8_init 74 = .ok (.aload_n 0, 1) := by decide +kernel
theorem dX8_init_75 : decode cX8_init 75 = .ok (.sipush 3000, 3) := by decide +kernel
theorem dX8_init_78 : decode cX8_init 78 = .ok (.newarray .int, 2) := by decide +kernel
theorem dX8_init_80 : decode cX8_init 80 = .ok (.putfield 38, 3) := by decide +kernel
theorem dX8_init_83 : decode cX8_init 83 = .ok (.aload_n 0, 1) := by decide +kernel
theorem dX8_init_84 : decode cX8_init 84 = .ok (.sipush 6000, 3) := by decide +kernel
theorem dX8_init_87 : decode cX8_init 87 = .ok (.newarray .int, 2) := by decide +kernel
theorem dX8_init_89 : decode cX8_init 89 = .ok (.putfield 41, 3) := by decide +kernel
theorem dX8_init_92 : decode cX8_init 92 = .ok (.aload_n 0, 1) := by decide +kernel
theorem dX8_init_93 : decode cX8_init 93 = .ok (.sipush 6000, 3) := by decide +kernel
theorem dX8_init_96 : decode cX8_init 96 = .ok (.newarray .int, 2) := by decide +kernel
theorem dX8_init_98 : decode cX8_init 98 = .ok (.putfield 44, 3) := by decide +kernel
theorem dX8_init_101 : decode cX8_init 101 = .ok (.aload_n 0, 1) := by decide +kernel
theorem dX8_init_102 : decode cX8_init 102 = .ok (.ldc 7, 2) := by decide +kernel
theorem dX8_init_104 : decode cX8_init 104 = .ok (.newarray .byte, 2) := by decide +kernel
theorem dX8_init_106 : decode cX8_init 106 = .ok (.putfield 47, 3) := by decide +kernel
theorem dX8_init_109 : decode cX8_init 109 = .ok (.aload_n 0, 1) := by decide +kernel
theorem dX8_init_110 : decode cX8_init 110 = .ok (.ldc 7, 2) := by decide +kernel
theorem dX8_init_112 : decode cX8_init 112 = .ok (.newarray .byte, 2) := by decide +kernel
theorem dX8_init_114 : decode cX8_init 114 = .ok (.putfield 50, 3) := by decide +kernel
theorem dX8_init_117 : decode cX8_init 117 = .ok (.aload_n 0, 1) := by decide +kernel
theorem dX8_init_118 : decode cX8_init 118 = .ok (.ldc 7, 2) := by decide +kernel
theorem dX8_init_120 : decode cX8_init 120 = .ok (.newarray .byte, 2) := by decide +kernel
theorem dX8_init_122 : decode cX8_init 122 = .ok (.putfield 53, 3) := by decide +kernel
theorem dX8_init_125 : decode cX8_init 125 = .ok (.aload_n 0, 1) := by decide +kernel
theorem dX8_init_126 : decode cX8_init 126 = .ok (.sipush 3000, 3) := by decide +kernel
theorem dX8_init_129 : decode cX8_init 129 = .ok (.newarray .int, 2) := by decide +kernel
theorem dX8_init_131 : decode cX8_init 131 = .ok (.putfield 56, 3) := by decide +kernel
theorem dX8_init_134 : decode cX8_init 134 = .ok (.aload_n 0, 1) := by decide +kernel
theorem dX8_init_135 : decode cX8_init 135 = .ok (.sipush 3000, 3) := by decide +kernel
theorem dX8_init_138 : decode cX8_init 138 = .ok (.newarray .int, 2) := by decide +kernel
theorem dX8_init_140 : decode cX8_init 140 = .ok (.putfield 59, 3) := by decide +kernel
theorem dX8_init_143 : decode cX8_init 143 = .ok (.aload_n 0, 1) := by decide +kernel
theorem dX8_init_144 : decode cX8_init 144 = .ok (.bipush 24, 2) := by decide +kernel
theorem dX8_init_146 : decode cX8_init 146 = .ok (.newarray .int, 2) := by decide +kernel
theorem dX8_init_148 : decode cX8_init 148 = .ok (.putfield 62, 3) := by decide +kernel
theorem dX8_init_151 : decode cX8_init 151 = .ok (.aload_n 0, 1) := by decide +kernel
theorem dX8_init_152 : decode cX8_init 152 = .ok (.bipush 24, 2) := by decide +kernel
theorem dX8_init_154 : decode cX8_init 154 = .ok (.newarray .long, 2) := by decide +kernel
theorem dX8_init_156 : decode cX8_init 156 = .ok (.putfield 65, 3) := by decide +kernel
theorem dX8_init_159 : decode cX8_init 159 = .ok (.aload_n 0, 1) := by decide +kernel
theorem dX8_init_160 : decode cX8_init 160 = .ok (.sipush 3000, 3) := by decide +kernel
theorem dX8_init_163 : decode cX8_init 163 = .ok (.newarray .int, 2) := by decide +kernel
theorem dX8_init_165 : decode cX8_init 165 = .ok (.putfield 68, 3) := by decide +kernel
theorem dX8_init_168 : decode cX8_init 168 = .ok (.return_, 1) := by decide +kernel
theorem dX8_thrown_0 : decode cX8_thrown 0 = .ok (.aload_n 0, 1) := by decide +kernel
theorem dX8_thrown_1 : decode cX8_thrown 1 = .ok (.getfield 71, 3) := by decide +kernel
theorem dX8_thrown_4 : decode cX8_thrown 4 = .ok (.ireturn, 1) := by decide +kernel
theorem dX8_kindOf_0 : decode cX8_kindOf 0 = .ok (.iload_n 0, 1) := by decide +kernel
theorem dX8_kindOf_1 : decode cX8_kindOf 1 = .ok (.sipush 128, 3) := by decide +kernel
theorem dX8_kindOf_4 : decode cX8_kindOf 4 = .ok (.if_icmp .lt 24, 3) := by decide +kernel
theorem dX8_kindOf_7 : decode cX8_kindOf 7 = .ok (.iload_n 0, 1) := by decide +kernel
theorem dX8_kindOf_8 : decode cX8_kindOf 8 = .ok (.sipush 224, 3) := by decide +kernel
theorem dX8_kindOf_11 : decode cX8_kindOf 11 = .ok (.if_icmp .ge 17, 3) := by decide +kernel
theorem dX8_kindOf_14 : decode cX8_kindOf 14 = .ok (.iload_n 0, 1) := by decide +kernel
theorem dX8_kindOf_15 : decode cX8_kindOf 15 = .ok (.sipush 204, 3) := by decide +kernel
theorem dX8_kindOf_18 : decode cX8_kindOf 18 = .ok (.if_icmp .lt 12, 3) := by decide +kernel
theorem dX8_kindOf_21 : decode cX8_kindOf 21 = .ok (.iload_n 0, 1) := by decide +kernel
theorem dX8_kindOf_22 : decode cX8_kindOf 22 = .ok (.sipush 211, 3) := by decide +kernel
theorem dX8_kindOf_25 : decode cX8_kindOf 25 = .ok (.if_icmp .gt 5, 3) := by decide +kernel
theorem dX8_kindOf_28 : decode cX8_kindOf 28 = .ok (.iconst 2, 1) := by decide +kernel
theorem dX8_kindOf_29 : decode cX8_kindOf 29 = .ok (.ireturn, 1) := by decide +kernel
theorem dX8_kindOf_30 : decode cX8_kindOf 30 = .ok (.iload_n 0, 1) := by decide +kernel
theorem dX8_kindOf_31 : decode cX8_kindOf 31 = .ok (.sipush 144, 3) := by decide +kernel
theorem dX8_kindOf_34 : decode cX8_kindOf 34 = .ok (.if_icmp .lt 10, 3) := by decide +kernel
theorem dX8_kindOf_37 : decode cX8_kindOf 37 = .ok (.iload_n 0, 1) := by decide +kernel
theorem dX8_kindOf_38 : decode cX8_kindOf 38 = .ok (.sipush 222, 3) := by decide +kernel
theorem dX8_kindOf_41 : decode cX8_kindOf 41 = .ok (.if_icmp .lt 6, 3) := by decide +kernel
theorem dX8_kindOf_44 : decode cX8_kindOf 44 = .ok (.bipush 8, 2) := by decide +kernel
theorem dX8_kindOf_46 : decode cX8_kindOf 46 = .ok (.ireturn, 1) := by decide +kernel
theorem dX8_kindOf_47 : decode cX8_kindOf 47 = .ok (.iload_n 0, 1) := by decide +kernel
theorem dX8_kindOf_48 : decode cX8_kindOf 48 = .ok (.sipush 160, 3) := by decide +kernel
theorem dX8_kindOf_51 : decode cX8_kindOf 51 = .ok (.if_icmp .lt 10, 3) := by decide +kernel
theorem dX8_kindOf_54 : decode cX8_kindOf 54 = .ok (.iload_n 0, 1) := by decide +kernel
theorem dX8_kindOf_55 : decode cX8_kindOf 55 = .ok (.sipush 220, 3) := by decide +kernel
theorem dX8_kindOf_58 : decode cX8_kindOf 58 = .ok (.if_icmp .lt 6, 3) := by decide +kernel
theorem dX8_kindOf_61 : decode cX8_kindOf 61 = .ok (.bipush 7, 2) := by decide +kernel
theorem dX8_kindOf_63 : decode cX8_kindOf 63 = .ok (.ireturn, 1) := by decide +kernel
theorem dX8_kindOf_64 : decode cX8_kindOf 64 = .ok (.iload_n 0, 1) := by decide +kernel
theorem dX8_kindOf_65 : decode cX8_kindOf 65 = .ok (.sipush 192, 3) := by decide +kernel
theorem dX8_kindOf_68 : decode cX8_kindOf 68 = .ok (.if_icmp .lt 10, 3) := by decide +kernel
theorem dX8_kindOf_71 : decode cX8_kindOf 71 = .ok (.iload_n 0, 1) := by decide +kernel
theorem dX8_kindOf_72 : decode cX8_kindOf 72 = .ok (.sipush 217, 3) := by decide +kernel
theorem dX8_kindOf_75 : decode cX8_kindOf 75 = .ok (.if_icmp .lt 5, 3) := by decide +kernel
theorem dX8_kindOf_78 : decode cX8_kindOf 78 = .ok (.iconst 5, 1) := by decide +kernel
theorem dX8_kindOf_79 : decode cX8_kindOf 79 = .ok (.ireturn, 1) := by decide +kernel
theorem dX8_kindOf_80 : decode cX8_kindOf 80 = .ok (.iload_n 0, 1) := by decide +kernel
theorem dX8_kindOf_81 : decode cX8_kindOf 81 = .ok (.tableswitch 76 192 203 #[63, 65, 67, 67, 69, 69, 69, 76, 76, 76, 72, 74], 63) := by decide +kernel
theorem dX8_kindOf_144 : decode cX8_kindOf 144 = .ok (.iconst 0, 1) := by decide +kernel
theorem dX8_kindOf_145 : decode cX8_kindOf 145 = .ok (.ireturn, 1) := by decide +kernel
theorem dX8_kindOf_146 : decode cX8_kindOf 146 = .ok (.iconst (-1), 1) := by decide +kernel
theorem dX8_kindOf_147 : decode cX8_kindOf 147 = .ok (.ireturn, 1) := by decide +kernel
theorem dX8_kindOf_148 : decode cX8_kindOf 148 = .ok (.iconst 1, 1) := by decide +kernel
theorem dX8_kindOf_149 : decode cX8_kindOf 149 = .ok (.ireturn, 1) := by decide +kernel
theorem dX8_kindOf_150 : decode cX8_kindOf 150 = .ok (.bipush 6, 2) := by decide +kernel
theorem dX8_kindOf_152 : decode cX8_kindOf 152 = .ok (.ireturn, 1) := by decide +kernel
theorem dX8_kindOf_153 : decode cX8_kindOf 153 = .ok (.iconst 3, 1) := by decide +kernel
theorem dX8_kindOf_154 : decode cX8_kindOf 154 = .ok (.ireturn, 1) := by decide +kernel
theorem dX8_kindOf_155 : decode cX8_kindOf 155 = .ok (.iconst 4, 1) := by decide +kernel
theorem dX8_kindOf_156 : decode cX8_kindOf 156 = .ok (.ireturn, 1) := by decide +kernel
theorem dX8_kindOf_157 : decode cX8_kindOf 157 = .ok (.bipush 9, 2) := by decide +kernel
theorem dX8_kindOf_159 : decode cX8_kindOf 159 = .ok (.ireturn, 1) := by decide +kernel
theorem dX8_width_0 : decode cX8_width 0 = .ok (.iload_n 0, 1) := by decide +kernel
theorem dX8_width_1 : decode cX8_width 1 = .ok (.tableswitch 136 196 223 #[127, 129, 131, 127, 129, 131, 131, 133, 127, 129, 131, 133, 127, 129, 131, 133, 136, 136, 136, 136, 136, 127, 129, 131, 129, 131, 129, 131], 127) := by decide +kernel
theorem dX8_width_128 : decode cX8_width 128 = .ok (.iconst 1, 1) := by decide +kernel
theorem dX8_width_129 : decode cX8_width 129 = .ok (.ireturn, 1) := by decide +kernel
theorem dX8_width_130 : decode cX8_width 130 = .ok (.iconst 2, 1) := by decide +kernel
theorem dX8_width_131 : decode cX8_width 131 = .ok (.ireturn, 1) := by decide +kernel
theorem dX8_width_132 : decode cX8_width 132 = .ok (.iconst 4, 1) := by decide +kernel
theorem dX8_width_133 : decode cX8_width 133 = .ok (.ireturn, 1) := by decide +kernel
theorem dX8_width_134 : decode cX8_width 134 = .ok (.bipush 8, 2) := by decide +kernel
theorem dX8_width_136 : decode cX8_width 136 = .ok (.ireturn, 1) := by decide +kernel
theorem dX8_width_137 : decode cX8_width 137 = .ok (.iconst 0, 1) := by decide +kernel
theorem dX8_width_138 : decode cX8_width 138 = .ok (.ireturn, 1) := by decide +kernel
theorem dX8_number_0 : decode cX8_number 0 = .ok (.lconst 0, 1) := by decide +kernel
theorem dX8_number_1 : decode cX8_number 1 = .ok (.lstore 4, 2) := by decide +kernel
theorem dX8_number_3 : decode cX8_number 3 = .ok (.iconst 0, 1) := by decide +kernel
theorem dX8_number_4 : decode cX8_number 4 = .ok (.istore 6, 2) := by decide +kernel
theorem dX8_number_6 : decode cX8_number 6 = .ok (.iload 6, 2) := by decide +kernel
theorem dX8_number_8 : decode cX8_number 8 = .ok (.iload_n 3, 1) := by decide +kernel
theorem dX8_number_9 : decode cX8_number 9 = .ok (.if_icmp .ge 29, 3) := by decide +kernel
theorem dX8_number_12 : decode cX8_number 12 = .ok (.lload 4, 2) := by decide +kernel
theorem dX8_number_14 : decode cX8_number 14 = .ok (.ldc2_w 75, 3) := by decide +kernel
theorem dX8_number_17 : decode cX8_number 17 = .ok (.lmul, 1) := by decide +kernel
theorem dX8_number_18 : decode cX8_number 18 = .ok (.aload_n 1, 1) := by decide +kernel
theorem dX8_number_19 : decode cX8_number 19 = .ok (.iload_n 2, 1) := by decide +kernel
theorem dX8_number_20 : decode cX8_number 20 = .ok (.iload 6, 2) := by decide +kernel
theorem dX8_number_22 : decode cX8_number 22 = .ok (.iadd, 1) := by decide +kernel
theorem dX8_number_23 : decode cX8_number 23 = .ok (.baload, 1) := by decide +kernel
theorem dX8_number_24 : decode cX8_number 24 = .ok (.sipush 255, 3) := by decide +kernel
theorem dX8_number_27 : decode cX8_number 27 = .ok (.iand, 1) := by decide +kernel
theorem dX8_number_28 : decode cX8_number 28 = .ok (.i2l, 1) := by decide +kernel
theorem dX8_number_29 : decode cX8_number 29 = .ok (.ladd, 1) := by decide +kernel
theorem dX8_number_30 : decode cX8_number 30 = .ok (.lstore 4, 2) := by decide +kernel
theorem dX8_number_32 : decode cX8_number 32 = .ok (.iinc 6 1, 3) := by decide +kernel
theorem dX8_number_35 : decode cX8_number 35 = .ok (.goto (-29), 3) := by decide +kernel
theorem dX8_number_38 : decode cX8_number 38 = .ok (.lload 4, 2) := by decide +kernel
theorem dX8_number_40 : decode cX8_number 40 = .ok (.lreturn, 1) := by decide +kernel
theorem dX8_many_0 : decode cX8_many 0 = .ok (.iload_n 1, 1) := by decide +kernel
theorem dX8_many_1 : decode cX8_many 1 = .ok (.sipush 128, 3) := by decide +kernel
theorem dX8_many_4 : decode cX8_many 4 = .ok (.if_icmp .lt 10, 3) := by decide +kernel
theorem dX8_many_7 : decode cX8_many 7 = .ok (.iload_n 1, 1) := by decide +kernel
theorem dX8_many_8 : decode cX8_many 8 = .ok (.sipush 224, 3) := by decide +kernel
theorem dX8_many_11 : decode cX8_many 11 = .ok (.if_icmp .lt 5, 3) := by decide +kernel
theorem dX8_many_14 : decode cX8_many 14 = .ok (.lconst 0, 1) := by decide +kernel
theorem dX8_many_15 : decode cX8_many 15 = .ok (.lreturn, 1) := by decide +kernel
theorem dX8_many_16 : decode cX8_many 16 = .ok (.iload_n 1, 1) := by decide +kernel
theorem dX8_many_17 : decode cX8_many 17 = .ok (.sipush 160, 3) := by decide +kernel
theorem dX8_many_20 : decode cX8_many 20 = .ok (.if_icmp .ge 9, 3) := by decide +kernel
theorem dX8_many_23 : decode cX8_many 23 = .ok (.iload_n 1, 1) := by decide +kernel
theorem dX8_many_24 : decode cX8_many 24 = .ok (.bipush 16, 2) := by decide +kernel
theorem dX8_many_26 : decode cX8_many 26 = .ok (.irem, 1) := by decide +kernel
theorem dX8_many_27 : decode cX8_many 27 = .ok (.i2l, 1) := by decide +kernel
theorem dX8_many_28 : decode cX8_many 28 = .ok (.lreturn, 1) := by decide +kernel
theorem dX8_many_29 : decode cX8_many 29 = .ok (.iload_n 1, 1) := by decide +kernel
theorem dX8_many_30 : decode cX8_many 30 = .ok (.sipush 192, 3) := by decide +kernel
theorem dX8_many_33 : decode cX8_many 33 = .ok (.if_icmp .ge 9, 3) := by decide +kernel
theorem dX8_many_36 : decode cX8_many 36 = .ok (.iload_n 1, 1) := by decide +kernel
theorem dX8_many_37 : decode cX8_many 37 = .ok (.bipush 32, 2) := by decide +kernel
theorem dX8_many_39 : decode cX8_many 39 = .ok (.irem, 1) := by decide +kernel
theorem dX8_many_40 : decode cX8_many 40 = .ok (.i2l, 1) := by decide +kernel
theorem dX8_many_41 : decode cX8_many 41 = .ok (.lreturn, 1) := by decide +kernel
theorem dX8_many_42 : decode cX8_many 42 = .ok (.iload_n 1, 1) := by decide +kernel
theorem dX8_many_43 : decode cX8_many 43 = .ok (.sipush 212, 3) := by decide +kernel
theorem dX8_many_46 : decode cX8_many 46 = .ok (.if_icmp .lt 18, 3) := by decide +kernel
theorem dX8_many_49 : decode cX8_many 49 = .ok (.iload_n 1, 1) := by decide +kernel
theorem dX8_many_50 : decode cX8_many 50 = .ok (.sipush 216, 3) := by decide +kernel
theorem dX8_many_53 : decode cX8_many 53 = .ok (.if_icmp .gt 11, 3) := by decide +kernel
theorem dX8_many_56 : decode cX8_many 56 = .ok (.lconst 1, 1) := by decide +kernel
theorem dX8_many_57 : decode cX8_many 57 = .ok (.iload_n 1, 1) := by decide +kernel
theorem dX8_many_58 : decode cX8_many 58 = .ok (.sipush 212, 3) := by decide +kernel
theorem dX8_many_61 : decode cX8_many 61 = .ok (.isub, 1) := by decide +kernel
theorem dX8_many_62 : decode cX8_many 62 = .ok (.lshl, 1) := by decide +kernel
theorem dX8_many_63 : decode cX8_many 63 = .ok (.lreturn, 1) := by decide +kernel
theorem dX8_many_64 : decode cX8_many 64 = .ok (.iload_n 1, 1) := by decide +kernel
theorem dX8_many_65 : decode cX8_many 65 = .ok (.invokestatic 77, 3) := by decide +kernel
theorem dX8_many_68 : decode cX8_many 68 = .ok (.iconst 5, 1) := by decide +kernel
theorem dX8_many_69 : decode cX8_many 69 = .ok (.if_icmp .ge 7, 3) := by decide +kernel
theorem dX8_many_72 : decode cX8_many 72 = .ok (.lconst 0, 1) := by decide +kernel
theorem dX8_many_73 : decode cX8_many 73 = .ok (.goto 18, 3) := by decide +kernel
theorem dX8_many_76 : decode cX8_many 76 = .ok (.aload_n 0, 1) := by decide +kernel
theorem dX8_many_77 : decode cX8_many 77 = .ok (.aload_n 0, 1) := by decide +kernel
theorem dX8_many_78 : decode cX8_many 78 = .ok (.getfield 8, 3) := by decide +kernel
theorem dX8_many_81 : decode cX8_many 81 = .ok (.iload_n 2, 1) := by decide +kernel
theorem dX8_many_82 : decode cX8_many 82 = .ok (.iconst 1, 1) := by decide +kernel
theorem dX8_many_83 : decode cX8_many 83 = .ok (.iadd, 1) := by decide +kernel
theorem dX8_many_84 : decode cX8_many 84 = .ok (.iload_n 1, 1) := by decide +kernel
theorem dX8_many_85 : decode cX8_many 85 = .ok (.invokestatic 81, 3) := by decide +kernel
theorem dX8_many_88 : decode cX8_many 88 = .ok (.invokevirtual 84, 3) := by decide +kernel
theorem dX8_many_91 : decode cX8_many 91 = .ok (.lreturn, 1) := by decide +kernel
theorem dX8_headOf_0 : decode cX8_headOf 0 = .ok (.iconst 1, 1) := by decide +kernel
theorem dX8_headOf_1 : decode cX8_headOf 1 = .ok (.iload_n 0, 1) := by decide +kernel
theorem dX8_headOf_2 : decode cX8_headOf 2 = .ok (.invokestatic 81, 3) := by decide +kernel
theorem dX8_headOf_5 : decode cX8_headOf 5 = .ok (.iadd, 1) := by decide +kernel
theorem dX8_headOf_6 : decode cX8_headOf 6 = .ok (.iload_n 0, 1) := by decide +kernel
theorem dX8_headOf_7 : decode cX8_headOf 7 = .ok (.invokestatic 77, 3) := by decide +kernel
theorem dX8_headOf_10 : decode cX8_headOf 10 = .ok (.bipush 9, 2) := by decide +kernel
theorem dX8_headOf_12 : decode cX8_headOf 12 = .ok (.if_icmp .ne 7, 3) := by decide +kernel
theorem dX8_headOf_15 : decode cX8_headOf 15 = .ok (.iconst 1, 1) := by decide +kernel
theorem dX8_headOf_16 : decode cX8_headOf 16 = .ok (.goto 4, 3) := by decide +kernel
theorem dX8_headOf_19 : decode cX8_headOf 19 = .ok (.iconst 0, 1) := by decide +kernel
theorem dX8_headOf_20 : decode cX8_headOf 20 = .ok (.iadd, 1) := by decide +kernel
theorem dX8_headOf_21 : decode cX8_headOf 21 = .ok (.ireturn, 1) := by decide +kernel
theorem dX8_isGroup_0 : decode cX8_isGroup 0 = .ok (.iload_n 0, 1) := by decide +kernel
theorem dX8_isGroup_1 : decode cX8_isGroup 1 = .ok (.bipush 7, 2) := by decide +kernel
theorem dX8_isGroup_3 : decode cX8_isGroup 3 = .ok (.if_icmp .eq 9, 3) := by decide +kernel
theorem dX8_isGroup_6 : decode cX8_isGroup 6 = .ok (.iload_n 0, 1) := by decide +kernel
theorem dX8_isGroup_7 : decode cX8_isGroup 7 = .ok (.bipush 8, 2) := by decide +kernel
theorem dX8_isGroup_9 : decode cX8_isGroup 9 = .ok (.if_icmp .ne 7, 3) := by decide +kernel
theorem dX8_isGroup_12 : decode cX8_isGroup 12 = .ok (.iconst 1, 1) := by decide +kernel
theorem dX8_isGroup_13 : decode cX8_isGroup 13 = .ok (.goto 4, 3) := by decide +kernel
theorem dX8_isGroup_16 : decode cX8_isGroup 16 = .ok (.iconst 0, 1) := by decide +kernel
theorem dX8_isGroup_17 : decode cX8_isGroup 17 = .ok (.ireturn, 1) := by decide +kernel
theorem dX8_skip_0 : decode cX8_skip 0 = .ok (.aload_n 0, 1) := by decide +kernel
theorem dX8_skip_1 : decode cX8_skip 1 = .ok (.iload_n 1, 1) := by decide +kernel
theorem dX8_skip_2 : decode cX8_skip 2 = .ok (.ifCond .lt 15, 3) := by decide +kernel
theorem dX8_skip_5 : decode cX8_skip 5 = .ok (.iload_n 1, 1) := by decide +kernel
theorem dX8_skip_6 : decode cX8_skip 6 = .ok (.aload_n 0, 1) := by decide +kernel
theorem dX8_skip_7 : decode cX8_skip 7 = .ok (.getfield 88, 3) := by decide +kernel
theorem dX8_skip_10 : decode cX8_skip 10 = .ok (.if_icmp .ge 7, 3) := by decide +kernel
theorem dX8_skip_13 : decode cX8_skip 13 = .ok (.iconst 0, 1) := by decide +kernel
theorem dX8_skip_14 : decode cX8_skip 14 = .ok (.goto 4, 3) := by decide +kernel
theorem dX8_skip_17 : decode cX8_skip 17 = .ok (.iconst 1, 1) := by decide +kernel
theorem dX8_skip_18 : decode cX8_skip 18 = .ok (.putfield 71, 3) := by decide +kernel
theorem dX8_skip_21 : decode cX8_skip 21 = .ok (.aload_n 0, 1) := by decide +kernel
theorem dX8_skip_22 : decode cX8_skip 22 = .ok (.getfield 71, 3) := by decide +kernel
theorem dX8_skip_25 : decode cX8_skip 25 = .ok (.ifCond .le 5, 3) := by decide +kernel
theorem dX8_skip_28 : decode cX8_skip 28 = .ok (.iconst 0, 1) := by decide +kernel
theorem dX8_skip_29 : decode cX8_skip 29 = .ok (.ireturn, 1) := by decide +kernel
theorem dX8_skip_30 : decode cX8_skip 30 = .ok (.lconst 1, 1) := by decide +kernel
theorem dX8_skip_31 : decode cX8_skip 31 = .ok (.lstore_n 2, 1) := by decide +kernel
theorem dX8_skip_32 : decode cX8_skip 32 = .ok (.iload_n 1, 1) := by decide +kernel
theorem dX8_skip_33 : decode cX8_skip 33 = .ok (.i2l, 1) := by decide +kernel
theorem dX8_skip_34 : decode cX8_skip 34 = .ok (.lstore 4, 2) := by decide +kernel
theorem dX8_skip_36 : decode cX8_skip 36 = .ok (.lload_n 2, 1) := by decide +kernel
theorem dX8_skip_37 : decode cX8_skip 37 = .ok (.lconst 0, 1) := by decide +kernel
theorem dX8_skip_38 : decode cX8_skip 38 = .ok (.lcmp, 1) := by decide +kernel
theorem dX8_skip_39 : decode cX8_skip 39 = .ok (.ifCond .le 136, 3) := by decide +kernel
theorem dX8_skip_42 : decode cX8_skip 42 = .ok (.lload 4, 2) := by decide +kernel
theorem dX8_skip_44 : decode cX8_skip 44 = .ok (.aload_n 0, 1) := by decide +kernel
theorem dX8_skip_45 : decode cX8_skip 45 = .ok (.getfield 88, 3) := by decide +kernel
theorem dX8_skip_48 : decode cX8_skip 48 = .ok (.i2l, 1) := by decide +kernel
theorem dX8_skip_49 : decode cX8_skip 49 = .ok (.lcmp, 1) := by decide +kernel
theorem dX8_skip_50 : decode cX8_skip 50 = .ok (.ifCond .lt 5, 3) := by decide +kernel
theorem dX8_skip_53 : decode cX8_skip 53 = .ok (.iconst (-1), 1) := by decide +kernel
theorem dX8_skip_54 : decode cX8_skip 54 = .ok (.ireturn, 1) := by decide +kernel
theorem dX8_skip_55 : decode cX8_skip 55 = .ok (.aload_n 0, 1) := by decide +kernel
theorem dX8_skip_56 : decode cX8_skip 56 = .ok (.getfield 8, 3) := by decide +kernel
theorem dX8_skip_59 : decode cX8_skip 59 = .ok (.lload 4, 2) := by decide +kernel
theorem dX8_skip_61 : decode cX8_skip 61 = .ok (.l2i, 1) := by decide +kernel
theorem dX8_skip_62 : decode cX8_skip 62 = .ok (.baload, 1) := by decide +kernel
theorem dX8_skip_63 : decode cX8_skip 63 = .ok (.sipush 255, 3) := by decide +kernel
theorem dX8_skip_66 : decode cX8_skip 66 = .ok (.iand, 1) := by decide +kernel
theorem dX8_skip_67 : decode cX8_skip 67 = .ok (.istore 6, 2) := by decide +kernel
theorem dX8_skip_69 : decode cX8_skip 69 = .ok (.iload 6, 2) := by decide +kernel
theorem dX8_skip_71 : decode cX8_skip 71 = .ok (.invokestatic 77, 3) := by decide +kernel
theorem dX8_skip_74 : decode cX8_skip 74 = .ok (.istore 7, 2) := by decide +kernel
theorem dX8_skip_76 : decode cX8_skip 76 = .ok (.iload 7, 2) := by decide +kernel
theorem dX8_skip_78 : decode cX8_skip 78 = .ok (.ifCond .lt 21, 3) := by decide +kernel
theorem dX8_skip_81 : decode cX8_skip 81 = .ok (.lload 4, 2) := by decide +kernel
theorem dX8_skip_83 : decode cX8_skip 83 = .ok (.iload 6, 2) := by decide +kernel
theorem dX8_skip_85 : decode cX8_skip 85 = .ok (.invokestatic 91, 3) := by decide +kernel
theorem dX8_skip_88 : decode cX8_skip 88 = .ok (.i2l, 1) := by decide +kernel
theorem dX8_skip_89 : decode cX8_skip 89 = .ok (.ladd, 1) := by decide +kernel
theorem dX8_skip_90 : decode cX8_skip 90 = .ok (.aload_n 0, 1) := by decide +kernel
theorem dX8_skip_91 : decode cX8_skip 91 = .ok (.getfield 88, 3) := by decide +kernel
theorem dX8_skip_94 : decode cX8_skip 94 = .ok (.i2l, 1) := by decide +kernel
theorem dX8_skip_95 : decode cX8_skip 95 = .ok (.lcmp, 1) := by decide +kernel
theorem dX8_skip_96 : decode cX8_skip 96 = .ok (.ifCond .le 5, 3) := by decide +kernel
theorem dX8_skip_99 : decode cX8_skip 99 = .ok (.iconst (-1), 1) := by decide +kernel
theorem dX8_skip_100 : decode cX8_skip 100 = .ok (.ireturn, 1) := by decide +kernel
theorem dX8_skip_101 : decode cX8_skip 101 = .ok (.aload_n 0, 1) := by decide +kernel
theorem dX8_skip_102 : decode cX8_skip 102 = .ok (.iload 6, 2) := by decide +kernel
theorem dX8_skip_104 : decode cX8_skip 104 = .ok (.lload 4, 2) := by decide +kernel
theorem dX8_skip_106 : decode cX8_skip 106 = .ok (.l2i, 1) := by decide +kernel
theorem dX8_skip_107 : decode cX8_skip 107 = .ok (.invokevirtual 94, 3) := by decide +kernel
theorem dX8_skip_110 : decode cX8_skip 110 = .ok (.lstore 8, 2) := by decide +kernel
theorem dX8_skip_112 : decode cX8_skip 112 = .ok (.lload_n 2, 1) := by decide +kernel
theorem dX8_skip_113 : decode cX8_skip 113 = .ok (.lconst 1, 1) := by decide +kernel
theorem dX8_skip_114 : decode cX8_skip 114 = .ok (.lsub, 1) := by decide +kernel
theorem dX8_skip_115 : decode cX8_skip 115 = .ok (.iload 7, 2) := by decide +kernel
theorem dX8_skip_117 : decode cX8_skip 117 = .ok (.bipush 7, 2) := by decide +kernel
theorem dX8_skip_119 : decode cX8_skip 119 = .ok (.if_icmp .ne 8, 3) := by decide +kernel
theorem dX8_skip_122 : decode cX8_skip 122 = .ok (.lload 8, 2) := by decide +kernel
theorem dX8_skip_124 : decode cX8_skip 124 = .ok (.goto 20, 3) := by decide +kernel
theorem dX8_skip_127 : decode cX8_skip 127 = .ok (.iload 7, 2) := by decide +kernel
theorem dX8_skip_129 : decode cX8_skip 129 = .ok (.bipush 8, 2) := by decide +kernel
theorem dX8_skip_131 : decode cX8_skip 131 = .ok (.if_icmp .ne 12, 3) := by decide +kernel
theorem dX8_skip_134 : decode cX8_skip 134 = .ok (.ldc2_w 98, 3) := by decide +kernel
theorem dX8_skip_137 : decode cX8_skip 137 = .ok (.lload 8, 2) := by decide +kernel
theorem dX8_skip_139 : decode cX8_skip 139 = .ok (.lmul, 1) := by decide +kernel
theorem dX8_skip_140 : decode cX8_skip 140 = .ok (.goto 4, 3) := by decide +kernel
theorem dX8_skip_143 : decode cX8_skip 143 = .ok (.lconst 0, 1) := by decide +kernel
theorem dX8_skip_144 : decode cX8_skip 144 = .ok (.ladd, 1) := by decide +kernel
theorem dX8_skip_145 : decode cX8_skip 145 = .ok (.lstore_n 2, 1) := by decide +kernel
theorem dX8_skip_146 : decode cX8_skip 146 = .ok (.lload 4, 2) := by decide +kernel
theorem dX8_skip_148 : decode cX8_skip 148 = .ok (.iload 6, 2) := by decide +kernel
theorem dX8_skip_150 : decode cX8_skip 150 = .ok (.invokestatic 91, 3) := by decide +kernel
theorem dX8_skip_153 : decode cX8_skip 153 = .ok (.i2l, 1) := by decide +kernel
theorem dX8_skip_154 : decode cX8_skip 154 = .ok (.ladd, 1) := by decide +kernel
theorem dX8_skip_155 : decode cX8_skip 155 = .ok (.iload 7, 2) := by decide +kernel
theorem dX8_skip_157 : decode cX8_skip 157 = .ok (.invokestatic 100, 3) := by decide +kernel
theorem dX8_skip_160 : decode cX8_skip 160 = .ok (.ifCond .eq 7, 3) := by decide +kernel
theorem dX8_skip_163 : decode cX8_skip 163 = .ok (.lconst 0, 1) := by decide +kernel
theorem dX8_skip_164 : decode cX8_skip 164 = .ok (.goto 5, 3) := by decide +kernel
theorem dX8_skip_167 : decode cX8_skip 167 = .ok (.lload 8, 2) := by decide +kernel
theorem dX8_skip_169 : decode cX8_skip 169 = .ok (.ladd, 1) := by decide +kernel
theorem dX8_skip_170 : decode cX8_skip 170 = .ok (.lstore 4, 2) := by decide +kernel
theorem dX8_skip_172 : decode cX8_skip 172 = .ok (.goto (-136), 3) := by decide +kernel
theorem dX8_skip_175 : decode cX8_skip 175 = .ok (.lload 4, 2) := by decide +kernel
theorem dX8_skip_177 : decode cX8_skip 177 = .ok (.aload_n 0, 1) := by decide +kernel
theorem dX8_skip_178 : decode cX8_skip 178 = .ok (.getfield 88, 3) := by decide +kernel
theorem dX8_skip_181 : decode cX8_skip 181 = .ok (.i2l, 1) := by decide +kernel
theorem dX8_skip_182 : decode cX8_skip 182 = .ok (.lcmp, 1) := by decide +kernel
theorem dX8_skip_183 : decode cX8_skip 183 = .ok (.ifCond .le 7, 3) := by decide +kernel
theorem dX8_skip_186 : decode cX8_skip 186 = .ok (.iconst (-1), 1) := by decide +kernel
theorem dX8_skip_187 : decode cX8_skip 187 = .ok (.goto 6, 3) := by decide +kernel
theorem dX8_skip_190 : decode cX8_skip 190 = .ok (.lload 4, 2) := by decide +kernel
theorem dX8_skip_192 : decode cX8_skip 192 = .ok (.l2i, 1) := by decide +kernel
theorem dX8_skip_193 : decode cX8_skip 193 = .ok (.ireturn, 1) := by decide +kernel
theorem dX8_goodPart_0 : decode cX8_goodPart 0 = .ok (.iload_n 1, 1) := by decide +kernel
theorem dX8_goodPart_1 : decode cX8_goodPart 1 = .ok (.istore_n 3, 1) := by decide +kernel
theorem dX8_goodPart_2 : decode cX8_goodPart 2 = .ok (.iload_n 3, 1) := by decide +kernel
theorem dX8_goodPart_3 : decode cX8_goodPart 3 = .ok (.iload_n 2, 1) := by decide +kernel
theorem dX8_goodPart_4 : decode cX8_goodPart 4 = .ok (.if_icmp .ge 275, 3) := by decide +kernel
theorem dX8_goodPart_7 : decode cX8_goodPart 7 = .ok (.aload_n 0, 1) := by decide +kernel
theorem dX8_goodPart_8 : decode cX8_goodPart 8 = .ok (.iload_n 3, 1) := by decide +kernel
theorem dX8_goodPart_9 : decode cX8_goodPart 9 = .ok (.baload, 1) := by decide +kernel
theorem dX8_goodPart_10 : decode cX8_goodPart 10 = .ok (.sipush 255, 3) := by decide +kernel
theorem dX8_goodPart_13 : decode cX8_goodPart 13 = .ok (.iand, 1) := by decide +kernel
theorem dX8_goodPart_14 : decode cX8_goodPart 14 = .ok (.istore 4, 2) := by decide +kernel
theorem dX8_goodPart_16 : decode cX8_goodPart 16 = .ok (.iload 4, 2) := by decide +kernel
theorem dX8_goodPart_18 : decode cX8_goodPart 18 = .ok (.sipush 128, 3) := by decide +kernel
theorem dX8_goodPart_21 : decode cX8_goodPart 21 = .ok (.if_icmp .ge 7, 3) := by decide +kernel
theorem dX8_goodPart_24 : decode cX8_goodPart 24 = .ok (.iconst 1, 1) := by decide +kernel
theorem dX8_goodPart_25 : decode cX8_goodPart 25 = .ok (.goto 64, 3) := by decide +kernel
theorem dX8_goodPart_28 : decode cX8_goodPart 28 = .ok (.iload 4, 2) := by decide +kernel
theorem dX8_goodPart_30 : decode cX8_goodPart 30 = .ok (.sipush 192, 3) := by decide +kernel
theorem dX8_goodPart_33 : decode cX8_goodPart 33 = .ok (.if_icmp .lt 15, 3) := by decide +kernel
theorem dX8_goodPart_36 : decode cX8_goodPart 36 = .ok (.iload 4, 2) := by decide +kernel
theorem dX8_goodPart_38 : decode cX8_goodPart 38 = .ok (.sipush 224, 3) := by decide +kernel
theorem dX8_goodPart_41 : decode cX8_goodPart 41 = .ok (.if_icmp .ge 7, 3) := by decide +kernel
theorem dX8_goodPart_44 : decode cX8_goodPart 44 = .ok (.iconst 2, 1) := by decide +kernel
theorem dX8_goodPart_45 : decode cX8_goodPart 45 = .ok (.goto 44, 3) := by decide +kernel
theorem dX8_goodPart_48 : decode cX8_goodPart 48 = .ok (.iload 4, 2) := by decide +kernel
theorem dX8_goodPart_50 : decode cX8_goodPart 50 = .ok (.sipush 224, 3) := by decide +kernel
theorem dX8_goodPart_53 : decode cX8_goodPart 53 = .ok (.if_icmp .lt 15, 3) := by decide +kernel
theorem dX8_goodPart_56 : decode cX8_goodPart 56 = .ok (.iload 4, 2) := by decide +kernel
theorem dX8_goodPart_58 : decode cX8_goodPart 58 = .ok (.sipush 240, 3) := by decide +kernel
theorem dX8_goodPart_61 : decode cX8_goodPart 61 = .ok (.if_icmp .ge 7, 3) := by decide +kernel
theorem dX8_goodPart_64 : decode cX8_goodPart 64 = .ok (.iconst 3, 1) := by decide +kernel
theorem dX8_goodPart_65 : decode cX8_goodPart 65 = .ok (.goto 24, 3) := by decide +kernel
theorem dX8_goodPart_68 : decode cX8_goodPart 68 = .ok (.iload 4, 2) := by decide +kernel
theorem dX8_goodPart_70 : decode cX8_goodPart 70 = .ok (.sipush 240, 3) := by decide +kernel
theorem dX8_goodPart_73 : decode cX8_goodPart 73 = .ok (.if_icmp .lt 15, 3) := by decide +kernel
theorem dX8_goodPart_76 : decode cX8_goodPart 76 = .ok (.iload 4, 2) := by decide +kernel
theorem dX8_goodPart_78 : decode cX8_goodPart 78 = .ok (.sipush 248, 3) := by decide +kernel
theorem dX8_goodPart_81 : decode cX8_goodPart 81 = .ok (.if_icmp .ge 7, 3) := by decide +kernel
theorem dX8_goodPart_84 : decode cX8_goodPart 84 = .ok (.iconst 4, 1) := by decide +kernel
theorem dX8_goodPart_85 : decode cX8_goodPart 85 = .ok (.goto 4, 3) := by decide +kernel
theorem dX8_goodPart_88 : decode cX8_goodPart 88 = .ok (.iconst 0, 1) := by decide +kernel
theorem dX8_goodPart_89 : decode cX8_goodPart 89 = .ok (.istore 5, 2) := by decide +kernel
theorem dX8_goodPart_91 : decode cX8_goodPart 91 = .ok (.iload 5, 2) := by decide +kernel
theorem dX8_goodPart_93 : decode cX8_goodPart 93 = .ok (.ifCond .eq 11, 3) := by decide +kernel
theorem dX8_goodPart_96 : decode cX8_goodPart 96 = .ok (.iload_n 3, 1) := by decide +kernel
theorem dX8_goodPart_97 : decode cX8_goodPart 97 = .ok (.iload 5, 2) := by decide +kernel
theorem dX8_goodPart_99 : decode cX8_goodPart 99 = .ok (.iadd, 1) := by decide +kernel
theorem dX8_goodPart_100 : decode cX8_goodPart 100 = .ok (.iload_n 2, 1) := by decide +kernel
theorem dX8_goodPart_101 : decode cX8_goodPart 101 = .ok (.if_icmp .le 7, 3) := by decide +kernel
theorem dX8_goodPart_104 : decode cX8_goodPart 104 = .ok (.iload_n 3, 1) := by decide +kernel
theorem dX8_goodPart_105 : decode cX8_goodPart 105 = .ok (.iload_n 1, 1) := by decide +kernel
theorem dX8_goodPart_106 : decode cX8_goodPart 106 = .ok (.isub, 1) := by decide +kernel
theorem dX8_goodPart_107 : decode cX8_goodPart 107 = .ok (.ireturn, 1) := by decide +kernel
theorem dX8_goodPart_108 : decode cX8_goodPart 108 = .ok (.iload 5, 2) := by decide +kernel
theorem dX8_goodPart_110 : decode cX8_goodPart 110 = .ok (.iconst 1, 1) := by decide +kernel
theorem dX8_goodPart_111 : decode cX8_goodPart 111 = .ok (.if_icmp .ne 8, 3) := by decide +kernel
theorem dX8_goodPart_114 : decode cX8_goodPart 114 = .ok (.iload 4, 2) := by decide +kernel
theorem dX8_goodPart_116 : decode cX8_goodPart 116 = .ok (.goto 13, 3) := by decide +kernel
theorem dX8_goodPart_119 : decode cX8_goodPart 119 = .ok (.iload 4, 2) := by decide +kernel
theorem dX8_goodPart_121 : decode cX8_goodPart 121 = .ok (.iconst 1, 1) := by decide +kernel
theorem dX8_goodPart_122 : decode cX8_goodPart 122 = .ok (.bipush 7, 2) := by decide +kernel
theorem dX8_goodPart_124 : decode cX8_goodPart 124 = .ok (.iload 5, 2) := by decide +kernel
theorem dX8_goodPart_126 : decode cX8_goodPart 126 = .ok (.isub, 1) := by decide +kernel
theorem dX8_goodPart_127 : decode cX8_goodPart 127 = .ok (.ishl, 1) := by decide +kernel
theorem dX8_goodPart_128 : decode cX8_goodPart 128 = .ok (.irem, 1) := by decide +kernel
theorem dX8_goodPart_129 : decode cX8_goodPart 129 = .ok (.istore 6, 2) := by decide +kernel
theorem dX8_goodPart_131 : decode cX8_goodPart 131 = .ok (.iconst 1, 1) := by decide +kernel
theorem dX8_goodPart_132 : decode cX8_goodPart 132 = .ok (.istore 7, 2) := by decide +kernel
theorem dX8_goodPart_134 : decode cX8_goodPart 134 = .ok (.iconst 1, 1) := by decide +kernel
theorem dX8_goodPart_135 : decode cX8_goodPart 135 = .ok (.istore 8, 2) := by decide +kernel
theorem dX8_goodPart_137 : decode cX8_goodPart 137 = .ok (.iload 8, 2) := by decide +kernel
theorem dX8_goodPart_139 : decode cX8_goodPart 139 = .ok (.iload 5, 2) := by decide +kernel
theorem dX8_goodPart_141 : decode cX8_goodPart 141 = .ok (.if_icmp .ge 55, 3) := by decide +kernel
theorem dX8_goodPart_144 : decode cX8_goodPart 144 = .ok (.aload_n 0, 1) := by decide +kernel
theorem dX8_goodPart_145 : decode cX8_goodPart 145 = .ok (.iload_n 3, 1) := by decide +kernel
theorem dX8_goodPart_146 : decode cX8_goodPart 146 = .ok (.iload 8, 2) := by decide +kernel
theorem dX8_goodPart_148 : decode cX8_goodPart 148 = .ok (.iadd, 1) := by decide +kernel
theorem dX8_goodPart_149 : decode cX8_goodPart 149 = .ok (.baload, 1) := by decide +kernel
theorem dX8_goodPart_150 : decode cX8_goodPart 150 = .ok (.sipush 255, 3) := by decide +kernel
theorem dX8_goodPart_153 : decode cX8_goodPart 153 = .ok (.iand, 1) := by decide +kernel
theorem dX8_goodPart_154 : decode cX8_goodPart 154 = .ok (.istore 9, 2) := by decide +kernel
theorem dX8_goodPart_156 : decode cX8_goodPart 156 = .ok (.iload 7, 2) := by decide +kernel
theorem dX8_goodPart_158 : decode cX8_goodPart 158 = .ok (.ifCond .eq 16, 3) := by decide +kernel
theorem dX8_goodPart_161 : decode cX8_goodPart 161 = .ok (.iload 9, 2) := by decide +kernel
theorem dX8_goodPart_163 : decode cX8_goodPart 163 = .ok (.bipush 64, 2) := by decide +kernel
theorem dX8_goodPart_165 : decode cX8_goodPart 165 = .ok (.idiv, 1) := by decide +kernel
theorem dX8_goodPart_166 : decode cX8_goodPart 166 = .ok (.iconst 2, 1) := by decide +kernel
theorem dX8_goodPart_167 : decode cX8_goodPart 167 = .ok (.if_icmp .ne 7, 3) := by decide +kernel
theorem dX8_goodPart_170 : decode cX8_goodPart 170 = .ok (.iconst 1, 1) := by decide +kernel
theorem dX8_goodPart_171 : decode cX8_goodPart 171 = .ok (.goto 4, 3) := by decide +kernel
theorem dX8_goodPart_174 : decode cX8_goodPart 174 = .ok (.iconst 0, 1) := by decide +kernel
theorem dX8_goodPart_175 : decode cX8_goodPart 175 = .ok (.istore 7, 2) := by decide +kernel
theorem dX8_goodPart_177 : decode cX8_goodPart 177 = .ok (.iload 6, 2) := by decide +kernel
theorem dX8_goodPart_179 : decode cX8_goodPart 179 = .ok (.bipush 64, 2) := by decide +kernel
theorem dX8_goodPart_181 : decode cX8_goodPart 181 = .ok (.imul, 1) := by decide +kernel
theorem dX8_goodPart_182 : decode cX8_goodPart 182 = .ok (.iload 9, 2) := by decide +kernel
theorem dX8_goodPart_184 : decode cX8_goodPart 184 = .ok (.bipush 64, 2) := by decide +kernel
theorem dX8_goodPart_186 : decode cX8_goodPart 186 = .ok (.irem, 1) := by decide +kernel
theorem dX8_goodPart_187 : decode cX8_goodPart 187 = .ok (.iadd, 1) := by decide +kernel
theorem dX8_goodPart_188 : decode cX8_goodPart 188 = .ok (.istore 6, 2) := by decide +kernel
theorem dX8_goodPart_190 : decode cX8_goodPart 190 = .ok (.iinc 8 1, 3) := by decide +kernel
theorem dX8_goodPart_193 : decode cX8_goodPart 193 = .ok (.goto (-56), 3) := by decide +kernel
theorem dX8_goodPart_196 : decode cX8_goodPart 196 = .ok (.iload 5, 2) := by decide +kernel
theorem dX8_goodPart_198 : decode cX8_goodPart 198 = .ok (.iconst 1, 1) := by decide +kernel
theorem dX8_goodPart_199 : decode cX8_goodPart 199 = .ok (.if_icmp .ne 7, 3) := by decide +kernel
theorem dX8_goodPart_202 : decode cX8_goodPart 202 = .ok (.iconst 0, 1) := by decide +kernel
theorem dX8_goodPart_203 : decode cX8_goodPart 203 = .ok (.goto 29, 3) := by decide +kernel
theorem dX8_goodPart_206 : decode cX8_goodPart 206 = .ok (.iload 5, 2) := by decide +kernel
theorem dX8_goodPart_208 : decode cX8_goodPart 208 = .ok (.iconst 2, 1) := by decide +kernel
theorem dX8_goodPart_209 : decode cX8_goodPart 209 = .ok (.if_icmp .ne 9, 3) := by decide +kernel
theorem dX8_goodPart_212 : decode cX8_goodPart 212 = .ok (.sipush 128, 3) := by decide +kernel
theorem dX8_goodPart_215 : decode cX8_goodPart 215 = .ok (.goto 17, 3) := by decide +kernel
theorem dX8_goodPart_218 : decode cX8_goodPart 218 = .ok (.iload 5, 2) := by decide +kernel
theorem dX8_goodPart_220 : decode cX8_goodPart 220 = .ok (.iconst 3, 1) := by decide +kernel
theorem dX8_goodPart_221 : decode cX8_goodPart 221 = .ok (.if_icmp .ne 9, 3) := by decide +kernel
theorem dX8_goodPart_224 : decode cX8_goodPart 224 = .ok (.sipush 2048, 3) := by decide +kernel
theorem dX8_goodPart_227 : decode cX8_goodPart 227 = .ok (.goto 5, 3) := by decide +kernel
theorem dX8_goodPart_230 : decode cX8_goodPart 230 = .ok (.ldc 7, 2) := by decide +kernel
theorem dX8_goodPart_232 : decode cX8_goodPart 232 = .ok (.istore 8, 2) := by decide +kernel
theorem dX8_goodPart_234 : decode cX8_goodPart 234 = .ok (.iload 7, 2) := by decide +kernel
theorem dX8_goodPart_236 : decode cX8_goodPart 236 = .ok (.ifCond .eq 31, 3) := by decide +kernel
theorem dX8_goodPart_239 : decode cX8_goodPart 239 = .ok (.iload 6, 2) := by decide +kernel
theorem dX8_goodPart_241 : decode cX8_goodPart 241 = .ok (.iload 8, 2) := by decide +kernel
theorem dX8_goodPart_243 : decode cX8_goodPart 243 = .ok (.if_icmp .lt 24, 3) := by decide +kernel
theorem dX8_goodPart_246 : decode cX8_goodPart 246 = .ok (.iload 6, 2) := by decide +kernel
theorem dX8_goodPart_248 : decode cX8_goodPart 248 = .ok (.ldc 104, 2) := by decide +kernel
theorem dX8_goodPart_250 : decode cX8_goodPart 250 = .ok (.if_icmp .gt 17, 3) := by decide +kernel
theorem dX8_goodPart_253 : decode cX8_goodPart 253 = .ok (.iload 6, 2) := by decide +kernel
theorem dX8_goodPart_255 : decode cX8_goodPart 255 = .ok (.ldc 105, 2) := by decide +kernel
theorem dX8_goodPart_257 : decode cX8_goodPart 257 = .ok (.if_icmp .lt 14, 3) := by decide +kernel
theorem dX8_goodPart_260 : decode cX8_goodPart 260 = .ok (.iload 6, 2) := by decide +kernel
theorem dX8_goodPart_262 : decode cX8_goodPart 262 = .ok (.ldc 106, 2) := by decide +kernel
theorem dX8_goodPart_264 : decode cX8_goodPart 264 = .ok (.if_icmp .gt 7, 3) := by decide +kernel
theorem dX8_goodPart_267 : decode cX8_goodPart 267 = .ok (.iload_n 3, 1) := by decide +kernel
theorem dX8_goodPart_268 : decode cX8_goodPart 268 = .ok (.iload_n 1, 1) := by decide +kernel
theorem dX8_goodPart_269 : decode cX8_goodPart 269 = .ok (.isub, 1) := by decide +kernel
theorem dX8_goodPart_270 : decode cX8_goodPart 270 = .ok (.ireturn, 1) := by decide +kernel
theorem dX8_goodPart_271 : decode cX8_goodPart 271 = .ok (.iload_n 3, 1) := by decide +kernel
theorem dX8_goodPart_272 : decode cX8_goodPart 272 = .ok (.iload 5, 2) := by decide +kernel
theorem dX8_goodPart_274 : decode cX8_goodPart 274 = .ok (.iadd, 1) := by decide +kernel
theorem dX8_goodPart_275 : decode cX8_goodPart 275 = .ok (.istore_n 3, 1) := by decide +kernel
theorem dX8_goodPart_276 : decode cX8_goodPart 276 = .ok (.goto (-274), 3) := by decide +kernel
theorem dX8_goodPart_279 : decode cX8_goodPart 279 = .ok (.iload_n 2, 1) := by decide +kernel
theorem dX8_goodPart_280 : decode cX8_goodPart 280 = .ok (.iload_n 1, 1) := by decide +kernel
theorem dX8_goodPart_281 : decode cX8_goodPart 281 = .ok (.isub, 1) := by decide +kernel
theorem dX8_goodPart_282 : decode cX8_goodPart 282 = .ok (.ireturn, 1) := by decide +kernel
theorem dX8_make_0 : decode cX8_make 0 = .ok (.aload_n 0, 1) := by decide +kernel
theorem dX8_make_1 : decode cX8_make 1 = .ok (.getfield 107, 3) := by decide +kernel
theorem dX8_make_4 : decode cX8_make 4 = .ok (.istore 4, 2) := by decide +kernel
theorem dX8_make_6 : decode cX8_make 6 = .ok (.aload_n 0, 1) := by decide +kernel
theorem dX8_make_7 : decode cX8_make 7 = .ok (.dup, 1) := by decide +kernel
theorem dX8_make_8 : decode cX8_make 8 = .ok (.getfield 107, 3) := by decide +kernel
theorem dX8_make_11 : decode cX8_make 11 = .ok (.iconst 1, 1) := by decide +kernel
theorem dX8_make_12 : decode cX8_make 12 = .ok (.iadd, 1) := by decide +kernel
theorem dX8_make_13 : decode cX8_make 13 = .ok (.putfield 107, 3) := by decide +kernel
theorem dX8_make_16 : decode cX8_make 16 = .ok (.aload_n 0, 1) := by decide +kernel
theorem dX8_make_17 : decode cX8_make 17 = .ok (.getfield 17, 3) := by decide +kernel
theorem dX8_make_20 : decode cX8_make 20 = .ok (.iload 4, 2) := by decide +kernel
theorem dX8_make_22 : decode cX8_make 22 = .ok (.iload_n 1, 1) := by decide +kernel
theorem dX8_make_23 : decode cX8_make 23 = .ok (.iastore, 1) := by decide +kernel
theorem dX8_make_24 : decode cX8_make 24 = .ok (.aload_n 0, 1) := by decide +kernel
theorem dX8_make_25 : decode cX8_make 25 = .ok (.getfield 21, 3) := by decide +kernel
theorem dX8_make_28 : decode cX8_make 28 = .ok (.iload 4, 2) := by decide +kernel
theorem dX8_make_30 : decode cX8_make 30 = .ok (.lload_n 2, 1) := by decide +kernel
theorem dX8_make_31 : decode cX8_make 31 = .ok (.lastore, 1) := by decide +kernel
theorem dX8_make_32 : decode cX8_make 32 = .ok (.aload_n 0, 1) := by decide +kernel
theorem dX8_make_33 : decode cX8_make 33 = .ok (.getfield 25, 3) := by decide +kernel
theorem dX8_make_36 : decode cX8_make 36 = .ok (.iload 4, 2) := by decide +kernel
theorem dX8_make_38 : decode cX8_make 38 = .ok (.iconst 0, 1) := by decide +kernel
theorem dX8_make_39 : decode cX8_make 39 = .ok (.bastore, 1) := by decide +kernel
theorem dX8_make_40 : decode cX8_make 40 = .ok (.aload_n 0, 1) := by decide +kernel
theorem dX8_make_41 : decode cX8_make 41 = .ok (.getfield 29, 3) := by decide +kernel
theorem dX8_make_44 : decode cX8_make 44 = .ok (.iload 4, 2) := by decide +kernel
theorem dX8_make_46 : decode cX8_make 46 = .ok (.iconst 0, 1) := by decide +kernel
theorem dX8_make_47 : decode cX8_make 47 = .ok (.iastore, 1) := by decide +kernel
theorem dX8_make_48 : decode cX8_make 48 = .ok (.aload_n 0, 1) := by decide +kernel
theorem dX8_make_49 : decode cX8_make 49 = .ok (.getfield 32, 3) := by decide +kernel
theorem dX8_make_52 : decode cX8_make 52 = .ok (.iload 4, 2) := by decide +kernel
theorem dX8_make_54 : decode cX8_make 54 = .ok (.iconst (-1), 1) := by decide +kernel
theorem dX8_make_55 : decode cX8_make 55 = .ok (.iastore, 1) := by decide +kernel
theorem dX8_make_56 : decode cX8_make 56 = .ok (.aload_n 0, 1) := by decide +kernel
theorem dX8_make_57 : decode cX8_make 57 = .ok (.getfield 35, 3) := by decide +kernel
theorem dX8_make_60 : decode cX8_make 60 = .ok (.iload 4, 2) := by decide +kernel
theorem dX8_make_62 : decode cX8_make 62 = .ok (.iconst (-1), 1) := by decide +kernel
theorem dX8_make_63 : decode cX8_make 63 = .ok (.iastore, 1) := by decide +kernel
theorem dX8_make_64 : decode cX8_make 64 = .ok (.aload_n 0, 1) := by decide +kernel
theorem dX8_make_65 : decode cX8_make 65 = .ok (.getfield 38, 3) := by decide +kernel
theorem dX8_make_68 : decode cX8_make 68 = .ok (.iload 4, 2) := by decide +kernel
theorem dX8_make_70 : decode cX8_make 70 = .ok (.iconst 0, 1) := by decide +kernel
theorem dX8_make_71 : decode cX8_make 71 = .ok (.iastore, 1) := by decide +kernel
theorem dX8_make_72 : decode cX8_make 72 = .ok (.aload_n 0, 1) := by decide +kernel
theorem dX8_make_73 : decode cX8_make 73 = .ok (.getfield 56, 3) := by decide +kernel
theorem dX8_make_76 : decode cX8_make 76 = .ok (.iload 4, 2) := by decide +kernel
theorem dX8_make_78 : decode cX8_make 78 = .ok (.iconst 0, 1) := by decide +kernel
theorem dX8_make_79 : decode cX8_make 79 = .ok (.iastore, 1) := by decide +kernel
theorem dX8_make_80 : decode cX8_make 80 = .ok (.iload 4, 2) := by decide +kernel
theorem dX8_make_82 : decode cX8_make 82 = .ok (.ireturn, 1) := by decide +kernel
theorem dX8_makeRow_0 : decode cX8_makeRow 0 = .ok (.aload_n 0, 1) := by decide +kernel
theorem dX8_makeRow_1 : decode cX8_makeRow 1 = .ok (.iload_n 1, 1) := by decide +kernel
theorem dX8_makeRow_2 : decode cX8_makeRow 2 = .ok (.lconst 0, 1) := by decide +kernel
theorem dX8_makeRow_3 : decode cX8_makeRow 3 = .ok (.invokevirtual 110, 3) := by decide +kernel
theorem dX8_makeRow_6 : decode cX8_makeRow 6 = .ok (.istore 4, 2) := by decide +kernel
theorem dX8_makeRow_8 : decode cX8_makeRow 8 = .ok (.aload_n 0, 1) := by decide +kernel
theorem dX8_makeRow_9 : decode cX8_makeRow 9 = .ok (.getfield 32, 3) := by decide +kernel
theorem dX8_makeRow_12 : decode cX8_makeRow 12 = .ok (.iload 4, 2) := by decide +kernel
theorem dX8_makeRow_14 : decode cX8_makeRow 14 = .ok (.aload_n 0, 1) := by decide +kernel
theorem dX8_makeRow_15 : decode cX8_makeRow 15 = .ok (.getfield 114, 3) := by decide +kernel
theorem dX8_makeRow_18 : decode cX8_makeRow 18 = .ok (.iastore, 1) := by decide +kernel
theorem dX8_makeRow_19 : decode cX8_makeRow 19 = .ok (.aload_n 0, 1) := by decide +kernel
theorem dX8_makeRow_20 : decode cX8_makeRow 20 = .ok (.getfield 38, 3) := by decide +kernel
theorem dX8_makeRow_23 : decode cX8_makeRow 23 = .ok (.iload 4, 2) := by decide +kernel
theorem dX8_makeRow_25 : decode cX8_makeRow 25 = .ok (.iload_n 3, 1) := by decide +kernel
theorem dX8_makeRow_26 : decode cX8_makeRow 26 = .ok (.iastore, 1) := by decide +kernel
theorem dX8_makeRow_27 : decode cX8_makeRow 27 = .ok (.iconst 0, 1) := by decide +kernel
theorem dX8_makeRow_28 : decode cX8_makeRow 28 = .ok (.istore 5, 2) := by decide +kernel
theorem dX8_makeRow_30 : decode cX8_makeRow 30 = .ok (.iload 5, 2) := by decide +kernel
theorem dX8_makeRow_32 : decode cX8_makeRow 32 = .ok (.iload_n 3, 1) := by decide +kernel
theorem dX8_makeRow_33 : decode cX8_makeRow 33 = .ok (.if_icmp .ge 30, 3) := by decide +kernel
theorem dX8_makeRow_36 : decode cX8_makeRow 36 = .ok (.aload_n 0, 1) := by decide +kernel
theorem dX8_makeRow_37 : decode cX8_makeRow 37 = .ok (.getfield 47, 3) := by decide +kernel
theorem dX8_makeRow_40 : decode cX8_makeRow 40 = .ok (.aload_n 0, 1) := by decide +kernel
theorem dX8_makeRow_41 : decode cX8_makeRow 41 = .ok (.getfield 114, 3) := by decide +kernel
theorem dX8_makeRow_44 : decode cX8_makeRow 44 = .ok (.iload 5, 2) := by decide +kernel
theorem dX8_makeRow_46 : decode cX8_makeRow 46 = .ok (.iadd, 1) := by decide +kernel
theorem dX8_makeRow_47 : decode cX8_makeRow 47 = .ok (.aload_n 0, 1) := by decide +kernel
theorem dX8_makeRow_48 : decode cX8_makeRow 48 = .ok (.getfield 8, 3) := by decide +kernel
theorem dX8_makeRow_51 : decode cX8_makeRow 51 = .ok (.iload_n 2, 1) := by decide +kernel
theorem dX8_makeRow_52 : decode cX8_makeRow 52 = .ok (.iload 5, 2) := by decide +kernel
theorem dX8_makeRow_54 : decode cX8_makeRow 54 = .ok (.iadd, 1) := by decide +kernel
theorem dX8_makeRow_55 : decode cX8_makeRow 55 = .ok (.baload, 1) := by decide +kernel
theorem dX8_makeRow_56 : decode cX8_makeRow 56 = .ok (.bastore, 1) := by decide +kernel
theorem dX8_makeRow_57 : decode cX8_makeRow 57 = .ok (.iinc 5 1, 3) := by decide +kernel
theorem dX8_makeRow_60 : decode cX8_makeRow 60 = .ok (.goto (-30), 3) := by decide +kernel
theorem dX8_makeRow_63 : decode cX8_makeRow 63 = .ok (.aload_n 0, 1) := by decide +kernel
theorem dX8_makeRow_64 : decode cX8_makeRow 64 = .ok (.aload_n 0, 1) := by decide +kernel
theorem dX8_makeRow_65 : decode cX8_makeRow 65 = .ok (.getfield 114, 3) := by decide +kernel
theorem dX8_makeRow_68 : decode cX8_makeRow 68 = .ok (.iload_n 3, 1) := by decide +kernel
theorem dX8_makeRow_69 : decode cX8_makeRow 69 = .ok (.iadd, 1) := by decide +kernel
theorem dX8_makeRow_70 : decode cX8_makeRow 70 = .ok (.putfield 114, 3) := by decide +kernel
theorem dX8_makeRow_73 : decode cX8_makeRow 73 = .ok (.iload 4, 2) := by decide +kernel
theorem dX8_makeRow_75 : decode cX8_makeRow 75 = .ok (.ireturn, 1) := by decide +kernel
theorem dX8_link_0 : decode cX8_link 0 = .ok (.aload_n 0, 1) := by decide +kernel
theorem dX8_link_1 : decode cX8_link 1 = .ok (.getfield 117, 3) := by decide +kernel
theorem dX8_link_4 : decode cX8_link 4 = .ok (.istore_n 3, 1) := by decide +kernel
theorem dX8_link_5 : decode cX8_link 5 = .ok (.aload_n 0, 1) := by decide +kernel
theorem dX8_link_6 : decode cX8_link 6 = .ok (.dup, 1) := by decide +kernel
theorem dX8_link_7 : decode cX8_link 7 = .ok (.getfield 117, 3) := by decide +kernel
theorem dX8_link_10 : decode cX8_link 10 = .ok (.iconst 1, 1) := by decide +kernel
theorem dX8_link_11 : decode cX8_link 11 = .ok (.iadd, 1) := by decide +kernel
theorem dX8_link_12 : decode cX8_link 12 = .ok (.putfield 117, 3) := by decide +kernel
theorem dX8_link_15 : decode cX8_link 15 = .ok (.aload_n 0, 1) := by decide +kernel
theorem dX8_link_16 : decode cX8_link 16 = .ok (.getfield 41, 3) := by decide +kernel
theorem dX8_link_19 : decode cX8_link 19 = .ok (.iload_n 3, 1) := by decide +kernel
theorem dX8_link_20 : decode cX8_link 20 = .ok (.iload_n 2, 1) := by decide +kernel
theorem dX8_link_21 : decode cX8_link 21 = .ok (.iastore, 1) := by decide +kernel
theorem dX8_link_22 : decode cX8_link 22 = .ok (.aload_n 0, 1) := by decide +kernel
theorem dX8_link_23 : decode cX8_link 23 = .ok (.getfield 44, 3) := by decide +kernel
theorem dX8_link_26 : decode cX8_link 26 = .ok (.iload_n 3, 1) := by decide +kernel
theorem dX8_link_27 : decode cX8_link 27 = .ok (.iconst (-1), 1) := by decide +kernel
theorem dX8_link_28 : decode cX8_link 28 = .ok (.iastore, 1) := by decide +kernel
theorem dX8_link_29 : decode cX8_link 29 = .ok (.aload_n 0, 1) := by decide +kernel
theorem dX8_link_30 : decode cX8_link 30 = .ok (.getfield 32, 3) := by decide +kernel
theorem dX8_link_33 : decode cX8_link 33 = .ok (.iload_n 1, 1) := by decide +kernel
theorem dX8_link_34 : decode cX8_link 34 = .ok (.iaload, 1) := by decide +kernel
theorem dX8_link_35 : decode cX8_link 35 = .ok (.ifCond .ge 13, 3) := by decide +kernel
theorem dX8_link_38 : decode cX8_link 38 = .ok (.aload_n 0, 1) := by decide +kernel
theorem dX8_link_39 : decode cX8_link 39 = .ok (.getfield 32, 3) := by decide +kernel
theorem dX8_link_42 : decode cX8_link 42 = .ok (.iload_n 1, 1) := by decide +kernel
theorem dX8_link_43 : decode cX8_link 43 = .ok (.iload_n 3, 1) := by decide +kernel
theorem dX8_link_44 : decode cX8_link 44 = .ok (.iastore, 1) := by decide +kernel
theorem dX8_link_45 : decode cX8_link 45 = .ok (.goto 15, 3) := by decide +kernel
theorem dX8_link_48 : decode cX8_link 48 = .ok (.aload_n 0, 1) := by decide +kernel
theorem dX8_link_49 : decode cX8_link 49 = .ok (.getfield 44, 3) := by decide +kernel
theorem dX8_link_52 : decode cX8_link 52 = .ok (.aload_n 0, 1) := by decide +kernel
theorem dX8_link_53 : decode cX8_link 53 = .ok (.getfield 35, 3) := by decide +kernel
theorem dX8_link_56 : decode cX8_link 56 = .ok (.iload_n 1, 1) := by decide +kernel
theorem dX8_link_57 : decode cX8_link 57 = .ok (.iaload, 1) := by decide +kernel
theorem dX8_link_58 : decode cX8_link 58 = .ok (.iload_n 3, 1) := by decide +kernel
theorem dX8_link_59 : decode cX8_link 59 = .ok (.iastore, 1) := by decide +kernel
theorem dX8_link_60 : decode cX8_link 60 = .ok (.aload_n 0, 1) := by decide +kernel
theorem dX8_link_61 : decode cX8_link 61 = .ok (.getfield 35, 3) := by decide +kernel
theorem dX8_link_64 : decode cX8_link 64 = .ok (.iload_n 1, 1) := by decide +kernel
theorem dX8_link_65 : decode cX8_link 65 = .ok (.iload_n 3, 1) := by decide +kernel
theorem dX8_link_66 : decode cX8_link 66 = .ok (.iastore, 1) := by decide +kernel
theorem dX8_link_67 : decode cX8_link 67 = .ok (.return_, 1) := by decide +kernel
theorem dX8_isValue_0 : decode cX8_isValue 0 = .ok (.iload_n 1, 1) := by decide +kernel
theorem dX8_isValue_1 : decode cX8_isValue 1 = .ok (.ifCond .lt 15, 3) := by decide +kernel
theorem dX8_isValue_4 : decode cX8_isValue 4 = .ok (.iload_n 1, 1) := by decide +kernel
theorem dX8_isValue_5 : decode cX8_isValue 5 = .ok (.aload_n 0, 1) := by decide +kernel
theorem dX8_isValue_6 : decode cX8_isValue 6 = .ok (.getfield 107, 3) := by decide +kernel
theorem dX8_isValue_9 : decode cX8_isValue 9 = .ok (.if_icmp .ge 7, 3) := by decide +kernel
theorem dX8_isValue_12 : decode cX8_isValue 12 = .ok (.iconst 1, 1) := by decide +kernel
theorem dX8_isValue_13 : decode cX8_isValue 13 = .ok (.goto 4, 3) := by decide +kernel
theorem dX8_isValue_16 : decode cX8_isValue 16 = .ok (.iconst 0, 1) := by decide +kernel
theorem dX8_isValue_17 : decode cX8_isValue 17 = .ok (.ireturn, 1) := by decide +kernel
theorem dX8_nil_0 : decode cX8_nil 0 = .ok (.aload_n 0, 1) := by decide +kernel
theorem dX8_nil_1 : decode cX8_nil 1 = .ok (.aload_n 0, 1) := by decide +kernel
theorem dX8_nil_2 : decode cX8_nil 2 = .ok (.getfield 107, 3) := by decide +kernel
theorem dX8_nil_5 : decode cX8_nil 5 = .ok (.sipush 3000, 3) := by decide +kernel
theorem dX8_nil_8 : decode cX8_nil 8 = .ok (.if_icmp .ne 7, 3) := by decide +kernel
theorem dX8_nil_11 : decode cX8_nil 11 = .ok (.iconst 1, 1) := by decide +kernel
theorem dX8_nil_12 : decode cX8_nil 12 = .ok (.goto 4, 3) := by decide +kernel
theorem dX8_nil_15 : decode cX8_nil 15 = .ok (.iconst 0, 1) := by decide +kernel
theorem dX8_nil_16 : decode cX8_nil 16 = .ok (.putfield 71, 3) := by decide +kernel
theorem dX8_nil_19 : decode cX8_nil 19 = .ok (.aload_n 0, 1) := by decide +kernel
theorem dX8_nil_20 : decode cX8_nil 20 = .ok (.getfield 71, 3) := by decide +kernel
theorem dX8_nil_23 : decode cX8_nil 23 = .ok (.ifCond .le 7, 3) := by decide +kernel
theorem dX8_nil_26 : decode cX8_nil 26 = .ok (.iconst 0, 1) := by decide +kernel
theorem dX8_nil_27 : decode cX8_nil 27 = .ok (.goto 9, 3) := by decide +kernel
theorem dX8_nil_30 : decode cX8_nil 30 = .ok (.aload_n 0, 1) := by decide +kernel
theorem dX8_nil_31 : decode cX8_nil 31 = .ok (.iconst 0, 1) := by decide +kernel
theorem dX8_nil_32 : decode cX8_nil 32 = .ok (.lconst 0, 1) := by decide +kernel
theorem dX8_nil_33 : decode cX8_nil 33 = .ok (.invokevirtual 110, 3) := by decide +kernel
theorem dX8_nil_36 : decode cX8_nil 36 = .ok (.ireturn, 1) := by decide +kernel
theorem dX8_truth_0 : decode cX8_truth 0 = .ok (.aload_n 0, 1) := by decide +kernel
theorem dX8_truth_1 : decode cX8_truth 1 = .ok (.aload_n 0, 1) := by decide +kernel
theorem dX8_truth_2 : decode cX8_truth 2 = .ok (.getfield 107, 3) := by decide +kernel
theorem dX8_truth_5 : decode cX8_truth 5 = .ok (.sipush 3000, 3) := by decide +kernel
theorem dX8_truth_8 : decode cX8_truth 8 = .ok (.if_icmp .ne 7, 3) := by decide +kernel
theorem dX8_truth_11 : decode cX8_truth 11 = .ok (.iconst 1, 1) := by decide +kernel
theorem dX8_truth_12 : decode cX8_truth 12 = .ok (.goto 4, 3) := by decide +kernel
theorem dX8_truth_15 : decode cX8_truth 15 = .ok (.iconst 0, 1) := by decide +kernel
theorem dX8_truth_16 : decode cX8_truth 16 = .ok (.putfield 71, 3) := by decide +kernel
theorem dX8_truth_19 : decode cX8_truth 19 = .ok (.aload_n 0, 1) := by decide +kernel
theorem dX8_truth_20 : decode cX8_truth 20 = .ok (.getfield 71, 3) := by decide +kernel
theorem dX8_truth_23 : decode cX8_truth 23 = .ok (.ifCond .le 5, 3) := by decide +kernel
theorem dX8_truth_26 : decode cX8_truth 26 = .ok (.iconst 0, 1) := by decide +kernel
theorem dX8_truth_27 : decode cX8_truth 27 = .ok (.ireturn, 1) := by decide +kernel
theorem dX8_truth_28 : decode cX8_truth 28 = .ok (.aload_n 0, 1) := by decide +kernel
theorem dX8_truth_29 : decode cX8_truth 29 = .ok (.iconst 1, 1) := by decide +kernel
theorem dX8_truth_30 : decode cX8_truth 30 = .ok (.lconst 0, 1) := by decide +kernel
theorem dX8_truth_31 : decode cX8_truth 31 = .ok (.invokevirtual 110, 3) := by decide +kernel
theorem dX8_truth_34 : decode cX8_truth 34 = .ok (.istore_n 2, 1) := by decide +kernel
theorem dX8_truth_35 : decode cX8_truth 35 = .ok (.aload_n 0, 1) := by decide +kernel
theorem dX8_truth_36 : decode cX8_truth 36 = .ok (.getfield 29, 3) := by decide +kernel
theorem dX8_truth_39 : decode cX8_truth 39 = .ok (.iload_n 2, 1) := by decide +kernel
theorem dX8_truth_40 : decode cX8_truth 40 = .ok (.iload_n 1, 1) := by decide +kernel
theorem dX8_truth_41 : decode cX8_truth 41 = .ok (.ifCond .eq 7, 3) := by decide +kernel
theorem dX8_truth_44 : decode cX8_truth 44 = .ok (.iconst 1, 1) := by decide +kernel
theorem dX8_truth_45 : decode cX8_truth 45 = .ok (.goto 4, 3) := by decide +kernel
theorem dX8_truth_48 : decode cX8_truth 48 = .ok (.iconst 0, 1) := by decide +kernel
theorem dX8_truth_49 : decode cX8_truth 49 = .ok (.iastore, 1) := by decide +kernel
theorem dX8_truth_50 : decode cX8_truth 50 = .ok (.iload_n 2, 1) := by decide +kernel
theorem dX8_truth_51 : decode cX8_truth 51 = .ok (.ireturn, 1) := by decide +kernel
theorem dX8_integer_0 : decode cX8_integer 0 = .ok (.aload_n 0, 1) := by decide +kernel
theorem dX8_integer_1 : decode cX8_integer 1 = .ok (.aload_n 0, 1) := by decide +kernel
theorem dX8_integer_2 : decode cX8_integer 2 = .ok (.getfield 107, 3) := by decide +kernel
theorem dX8_integer_5 : decode cX8_integer 5 = .ok (.sipush 3000, 3) := by decide +kernel
theorem dX8_integer_8 : decode cX8_integer 8 = .ok (.if_icmp .ne 7, 3) := by decide +kernel
theorem dX8_integer_11 : decode cX8_integer 11 = .ok (.iconst 1, 1) := by decide +kernel
theorem dX8_integer_12 : decode cX8_integer 12 = .ok (.goto 4, 3) := by decide +kernel
theorem dX8_integer_15 : decode cX8_integer 15 = .ok (.iconst 0, 1) := by decide +kernel
theorem dX8_integer_16 : decode cX8_integer 16 = .ok (.putfield 71, 3) := by decide +kernel
theorem dX8_integer_19 : decode cX8_integer 19 = .ok (.aload_n 0, 1) := by decide +kernel
theorem dX8_integer_20 : decode cX8_integer 20 = .ok (.getfield 71, 3) := by decide +kernel
theorem dX8_integer_23 : decode cX8_integer 23 = .ok (.ifCond .le 5, 3) := by decide +kernel
theorem dX8_integer_26 : decode cX8_integer 26 = .ok (.iconst 0, 1) := by decide +kernel
theorem dX8_integer_27 : decode cX8_integer 27 = .ok (.ireturn, 1) := by decide +kernel
theorem dX8_integer_28 : decode cX8_integer 28 = .ok (.aload_n 0, 1) := by decide +kernel
theorem dX8_integer_29 : decode cX8_integer 29 = .ok (.iconst 2, 1) := by decide +kernel
theorem dX8_integer_30 : decode cX8_integer 30 = .ok (.lload_n 1, 1) := by decide +kernel
theorem dX8_integer_31 : decode cX8_integer 31 = .ok (.invokevirtual 110, 3) := by decide +kernel
theorem dX8_integer_34 : decode cX8_integer 34 = .ok (.istore 4, 2) := by decide +kernel
theorem dX8_integer_36 : decode cX8_integer 36 = .ok (.aload_n 0, 1) := by decide +kernel
theorem dX8_integer_37 : decode cX8_integer 37 = .ok (.getfield 25, 3) := by decide +kernel
theorem dX8_integer_40 : decode cX8_integer 40 = .ok (.iload 4, 2) := by decide +kernel
theorem dX8_integer_42 : decode cX8_integer 42 = .ok (.iload_n 3, 1) := by decide +kernel
theorem dX8_integer_43 : decode cX8_integer 43 = .ok (.ifCond .eq 13, 3) := by decide +kernel
theorem dX8_integer_46 : decode cX8_integer 46 = .ok (.lload_n 1, 1) := by decide +kernel
theorem dX8_integer_47 : decode cX8_integer 47 = .ok (.lconst 0, 1) := by decide +kernel
theorem dX8_integer_48 : decode cX8_integer 48 = .ok (.lcmp, 1) := by decide +kernel
theorem dX8_integer_49 : decode cX8_integer 49 = .ok (.ifCond .ge 7, 3) := by decide +kernel
theorem dX8_integer_52 : decode cX8_integer 52 = .ok (.iconst 1, 1) := by decide +kernel
theorem dX8_integer_53 : decode cX8_integer 53 = .ok (.goto 4, 3) := by decide +kernel
theorem dX8_integer_56 : decode cX8_integer 56 = .ok (.iconst 0, 1) := by decide +kernel
theorem dX8_integer_57 : decode cX8_integer 57 = .ok (.bastore, 1) := by decide +kernel
theorem dX8_integer_58 : decode cX8_integer 58 = .ok (.iload 4, 2) := by decide +kernel
theorem dX8_integer_60 : decode cX8_integer 60 = .ok (.ireturn, 1) := by decide +kernel
theorem dX8_real_0 : decode cX8_real 0 = .ok (.aload_n 0, 1) := by decide +kernel
theorem dX8_real_1 : decode cX8_real 1 = .ok (.aload_n 0, 1) := by decide +kernel
theorem dX8_real_2 : decode cX8_real 2 = .ok (.getfield 107, 3) := by decide +kernel
theorem dX8_real_5 : decode cX8_real 5 = .ok (.sipush 3000, 3) := by decide +kernel
theorem dX8_real_8 : decode cX8_real 8 = .ok (.if_icmp .ne 7, 3) := by decide +kernel
theorem dX8_real_11 : decode cX8_real 11 = .ok (.iconst 1, 1) := by decide +kernel
theorem dX8_real_12 : decode cX8_real 12 = .ok (.goto 4, 3) := by decide +kernel
theorem dX8_real_15 : decode cX8_real 15 = .ok (.iconst 0, 1) := by decide +kernel
theorem dX8_real_16 : decode cX8_real 16 = .ok (.putfield 71, 3) := by decide +kernel
theorem dX8_real_19 : decode cX8_real 19 = .ok (.aload_n 0, 1) := by decide +kernel
theorem dX8_real_20 : decode cX8_real 20 = .ok (.getfield 71, 3) := by decide +kernel
theorem dX8_real_23 : decode cX8_real 23 = .ok (.ifCond .le 7, 3) := by decide +kernel
theorem dX8_real_26 : decode cX8_real 26 = .ok (.iconst 0, 1) := by decide +kernel
theorem dX8_real_27 : decode cX8_real 27 = .ok (.goto 29, 3) := by decide +kernel
theorem dX8_real_30 : decode cX8_real 30 = .ok (.aload_n 0, 1) := by decide +kernel
theorem dX8_real_31 : decode cX8_real 31 = .ok (.iload_n 3, 1) := by decide +kernel
theorem dX8_real_32 : decode cX8_real 32 = .ok (.ifCond .eq 7, 3) := by decide +kernel
theorem dX8_real_35 : decode cX8_real 35 = .ok (.iconst 4, 1) := by decide +kernel
theorem dX8_real_36 : decode cX8_real 36 = .ok (.goto 4, 3) := by decide +kernel
theorem dX8_real_39 : decode cX8_real 39 = .ok (.iconst 3, 1) := by decide +kernel
theorem dX8_real_40 : decode cX8_real 40 = .ok (.iload_n 3, 1) := by decide +kernel
theorem dX8_real_41 : decode cX8_real 41 = .ok (.ifCond .eq 7, 3) := by decide +kernel
theorem dX8_real_44 : decode cX8_real 44 = .ok (.lload_n 1, 1) := by decide +kernel
theorem dX8_real_45 : decode cX8_real 45 = .ok (.goto 8, 3) := by decide +kernel
theorem dX8_real_48 : decode cX8_real 48 = .ok (.lload_n 1, 1) := by decide +kernel
theorem dX8_real_49 : decode cX8_real 49 = .ok (.ldc2_w 120, 3) := by decide +kernel
theorem dX8_real_52 : decode cX8_real 52 = .ok (.land, 1) := by decide +kernel
theorem dX8_real_53 : decode cX8_real 53 = .ok (.invokevirtual 110, 3) := by decide +kernel
theorem dX8_real_56 : decode cX8_real 56 = .ok (.ireturn, 1) := by decide +kernel
theorem dX8_row_0 : decode cX8_row 0 = .ok (.iload_n 1, 1) := by decide +kernel
theorem dX8_row_1 : decode cX8_row 1 = .ok (.bipush 6, 2) := by decide +kernel
theorem dX8_row_3 : decode cX8_row 3 = .ok (.if_icmp .eq 27, 3) := by decide +kernel
theorem dX8_row_6 : decode cX8_row 6 = .ok (.iload_n 1, 1) := by decide +kernel
theorem dX8_row_7 : decode cX8_row 7 = .ok (.iconst 5, 1) := by decide +kernel
theorem dX8_row_8 : decode cX8_row 8 = .ok (.if_icmp .ne 26, 3) := by decide +kernel
theorem dX8_row_11 : decode cX8_row 11 = .ok (.aload_n 0, 1) := by decide +kernel
theorem dX8_row_12 : decode cX8_row 12 = .ok (.getfield 8, 3) := by decide +kernel
theorem dX8_row_15 : decode cX8_row 15 = .ok (.iconst 0, 1) := by decide +kernel
theorem dX8_row_16 : decode cX8_row 16 = .ok (.aload_n 0, 1) := by decide +kernel
theorem dX8_row_17 : decode cX8_row 17 = .ok (.getfield 88, 3) := by decide +kernel
theorem dX8_row_20 : decode cX8_row 20 = .ok (.invokestatic 122, 3) := by decide +kernel
theorem dX8_row_23 : decode cX8_row 23 = .ok (.aload_n 0, 1) := by decide +kernel
theorem dX8_row_24 : decode cX8_row 24 = .ok (.getfield 88, 3) := by decide +kernel
theorem dX8_row_27 : decode cX8_row 27 = .ok (.if_icmp .ne 7, 3) := by decide +kernel
theorem dX8_row_30 : decode cX8_row 30 = .ok (.iconst 1, 1) := by decide +kernel
theorem dX8_row_31 : decode cX8_row 31 = .ok (.goto 4, 3) := by decide +kernel
theorem dX8_row_34 : decode cX8_row 34 = .ok (.iconst 0, 1) := by decide +kernel
theorem dX8_row_35 : decode cX8_row 35 = .ok (.istore_n 2, 1) := by decide +kernel
theorem dX8_row_36 : decode cX8_row 36 = .ok (.aload_n 0, 1) := by decide +kernel
theorem dX8_row_37 : decode cX8_row 37 = .ok (.iload_n 2, 1) := by decide +kernel
theorem dX8_row_38 : decode cX8_row 38 = .ok (.ifCond .ne 7, 3) := by decide +kernel
theorem dX8_row_41 : decode cX8_row 41 = .ok (.iconst 1, 1) := by decide +kernel
theorem dX8_row_42 : decode cX8_row 42 = .ok (.goto 32, 3) := by decide +kernel
theorem dX8_row_45 : decode cX8_row 45 = .ok (.aload_n 0, 1) := by decide +kernel
theorem dX8_row_46 : decode cX8_row 46 = .ok (.getfield 107, 3) := by decide +kernel
theorem dX8_row_49 : decode cX8_row 49 = .ok (.sipush 3000, 3) := by decide +kernel
theorem dX8_row_52 : decode cX8_row 52 = .ok (.if_icmp .eq 17, 3) := by decide +kernel
theorem dX8_row_55 : decode cX8_row 55 = .ok (.aload_n 0, 1) := by decide +kernel
theorem dX8_row_56 : decode cX8_row 56 = .ok (.getfield 114, 3) := by decide +kernel
theorem dX8_row_59 : decode cX8_row 59 = .ok (.aload_n 0, 1) := by decide +kernel
theorem dX8_row_60 : decode cX8_row 60 = .ok (.getfield 88, 3) := by decide +kernel
theorem dX8_row_63 : decode cX8_row 63 = .ok (.iadd, 1) := by decide +kernel
theorem dX8_row_64 : decode cX8_row 64 = .ok (.ldc 7, 2) := by decide +kernel
theorem dX8_row_66 : decode cX8_row 66 = .ok (.if_icmp .le 7, 3) := by decide +kernel
theorem dX8_row_69 : decode cX8_row 69 = .ok (.iconst 2, 1) := by decide +kernel
theorem dX8_row_70 : decode cX8_row 70 = .ok (.goto 4, 3) := by decide +kernel
theorem dX8_row_73 : decode cX8_row 73 = .ok (.iconst 0, 1) := by decide +kernel
theorem dX8_row_74 : decode cX8_row 74 = .ok (.putfield 71, 3) := by decide +kernel
theorem dX8_row_77 : decode cX8_row 77 = .ok (.aload_n 0, 1) := by decide +kernel
theorem dX8_row_78 : decode cX8_row 78 = .ok (.getfield 71, 3) := by decide +kernel
theorem dX8_row_81 : decode cX8_row 81 = .ok (.ifCond .le 5, 3) := by decide +kernel
theorem dX8_row_84 : decode cX8_row 84 = .ok (.iconst 0, 1) := by decide +kernel
theorem dX8_row_85 : decode cX8_row 85 = .ok (.ireturn, 1) := by decide +kernel
theorem dX8_row_86 : decode cX8_row 86 = .ok (.aload_n 0, 1) := by decide +kernel
theorem dX8_row_87 : decode cX8_row 87 = .ok (.iload_n 1, 1) := by decide +kernel
theorem dX8_row_88 : decode cX8_row 88 = .ok (.iconst 0, 1) := by decide +kernel
theorem dX8_row_89 : decode cX8_row 89 = .ok (.aload_n 0, 1) := by decide +kernel
theorem dX8_row_90 : decode cX8_row 90 = .ok (.getfield 88, 3) := by decide +kernel
theorem dX8_row_93 : decode cX8_row 93 = .ok (.invokevirtual 126, 3) := by decide +kernel
theorem dX8_row_96 : decode cX8_row 96 = .ok (.istore_n 3, 1) := by decide +kernel
theorem dX8_row_97 : decode cX8_row 97 = .ok (.aload_n 0, 1) := by decide +kernel
theorem dX8_row_98 : decode cX8_row 98 = .ok (.iconst 0, 1) := by decide +kernel
theorem dX8_row_99 : decode cX8_row 99 = .ok (.putfield 88, 3) := by decide +kernel
theorem dX8_row_102 : decode cX8_row 102 = .ok (.iload_n 3, 1) := by decide +kernel
theorem dX8_row_103 : decode cX8_row 103 = .ok (.ireturn, 1) := by decide +kernel
theorem dX8_extension_0 : decode cX8_extension 0 = .ok (.iload_n 1, 1) := by decide +kernel
theorem dX8_extension_1 : decode cX8_extension 1 = .ok (.bipush (-128), 2) := by decide +kernel
theorem dX8_extension_3 : decode cX8_extension 3 = .ok (.if_icmp .lt 22, 3) := by decide +kernel
theorem dX8_extension_6 : decode cX8_extension 6 = .ok (.iload_n 1, 1) := by decide +kernel
theorem dX8_extension_7 : decode cX8_extension 7 = .ok (.bipush 127, 2) := by decide +kernel
theorem dX8_extension_9 : decode cX8_extension 9 = .ok (.if_icmp .gt 16, 3) := by decide +kernel
theorem dX8_extension_12 : decode cX8_extension 12 = .ok (.iload_n 1, 1) := by decide +kernel
theorem dX8_extension_13 : decode cX8_extension 13 = .ok (.iconst (-1), 1) := by decide +kernel
theorem dX8_extension_14 : decode cX8_extension 14 = .ok (.if_icmp .eq 11, 3) := by decide +kernel
theorem dX8_extension_17 : decode cX8_extension 17 = .ok (.iload_n 1, 1) := by decide +kernel
theorem dX8_extension_18 : decode cX8_extension 18 = .ok (.ifCond .eq 7, 3) := by decide +kernel
theorem dX8_extension_21 : decode cX8_extension 21 = .ok (.iconst 1, 1) := by decide +kernel
theorem dX8_extension_22 : decode cX8_extension 22 = .ok (.goto 4, 3) := by decide +kernel
theorem dX8_extension_25 : decode cX8_extension 25 = .ok (.iconst 0, 1) := by decide +kernel
theorem dX8_extension_26 : decode cX8_extension 26 = .ok (.istore_n 2, 1) := by decide +kernel
theorem dX8_extension_27 : decode cX8_extension 27 = .ok (.aload_n 0, 1) := by decide +kernel
theorem dX8_extension_28 : decode cX8_extension 28 = .ok (.iload_n 2, 1) := by decide +kernel
theorem dX8_extension_29 : decode cX8_extension 29 = .ok (.ifCond .ne 7, 3) := by decide +kernel
theorem dX8_extension_32 : decode cX8_extension 32 = .ok (.iconst 1, 1) := by decide +kernel
theorem dX8_extension_33 : decode cX8_extension 33 = .ok (.goto 32, 3) := by decide +kernel
theorem dX8_extension_36 : decode cX8_extension 36 = .ok (.aload_n 0, 1) := by decide +kernel
theorem dX8_extension_37 : decode cX8_extension 37 = .ok (.getfield 107, 3) := by decide +kernel
theorem dX8_extension_40 : decode cX8_extension 40 = .ok (.sipush 3000, 3) := by decide +kernel
theorem dX8_extension_43 : decode cX8_extension 43 = .ok (.if_icmp .eq 17, 3) := by decide +kernel
theorem dX8_extension_46 : decode cX8_extension 46 = .ok (.aload_n 0, 1) := by decide +kernel
theorem dX8_extension_47 : decode cX8_extension 47 = .ok (.getfield 114, 3) := by decide +kernel
theorem dX8_extension_50 : decode cX8_extension 50 = .ok (.aload_n 0, 1) := by decide +kernel
theorem dX8_extension_51 : decode cX8_extension 51 = .ok (.getfield 88, 3) := by decide +kernel
theorem dX8_extension_54 : decode cX8_extension 54 = .ok (.iadd, 1) := by decide +kernel
theorem dX8_extension_55 : decode cX8_extension 55 = .ok (.ldc 7, 2) := by decide +kernel
theorem dX8_extension_57 : decode cX8_extension 57 = .ok (.if_icmp .le 7, 3) := by decide +kernel
theorem dX8_extension_60 : decode cX8_extension 60 = .ok (.iconst 2, 1) := by decide +kernel
theorem dX8_extension_61 : decode cX8_extension 61 = .ok (.goto 4, 3) := by decide +kernel
theorem dX8_extension_64 : decode cX8_extension 64 = .ok (.iconst 0, 1) := by decide +kernel
theorem dX8_extension_65 : decode cX8_extension 65 = .ok (.putfield 71, 3) := by decide +kernel
theorem dX8_extension_68 : decode cX8_extension 68 = .ok (.aload_n 0, 1) := by decide +kernel
theorem dX8_extension_69 : decode cX8_extension 69 = .ok (.getfield 71, 3) := by decide +kernel
theorem dX8_extension_72 : decode cX8_extension 72 = .ok (.ifCond .le 5, 3) := by decide +kernel
theorem dX8_extension_75 : decode cX8_extension 75 = .ok (.iconst 0, 1) := by decide +kernel
theorem dX8_extension_76 : decode cX8_extension 76 = .ok (.ireturn, 1) := by decide +kernel
theorem dX8_extension_77 : decode cX8_extension 77 = .ok (.aload_n 0, 1) := by decide +kernel
theorem dX8_extension_78 : decode cX8_extension 78 = .ok (.bipush 9, 2) := by decide +kernel
theorem dX8_extension_80 : decode cX8_extension 80 = .ok (.iconst 0, 1) := by decide +kernel
theorem dX8_extension_81 : decode cX8_extension 81 = .ok (.aload_n 0, 1) := by decide +kernel
theorem dX8_extension_82 : decode cX8_extension 82 = .ok (.getfield 88, 3) := by decide +kernel
theorem dX8_extension_85 : decode cX8_extension 85 = .ok (.invokevirtual 126, 3) := by decide +kernel
theorem dX8_extension_88 : decode cX8_extension 88 = .ok (.istore_n 3, 1) := by decide +kernel
theorem dX8_extension_89 : decode cX8_extension 89 = .ok (.aload_n 0, 1) := by decide +kernel
theorem dX8_extension_90 : decode cX8_extension 90 = .ok (.getfield 29, 3) := by decide +kernel
theorem dX8_extension_93 : decode cX8_extension 93 = .ok (.iload_n 3, 1) := by decide +kernel
theorem dX8_extension_94 : decode cX8_extension 94 = .ok (.iload_n 1, 1) := by decide +kernel
theorem dX8_extension_95 : decode cX8_extension 95 = .ok (.iastore, 1) := by decide +kernel
theorem dX8_extension_96 : decode cX8_extension 96 = .ok (.aload_n 0, 1) := by decide +kernel
theorem dX8_extension_97 : decode cX8_extension 97 = .ok (.iconst 0, 1) := by decide +kernel
theorem dX8_extension_98 : decode cX8_extension 98 = .ok (.putfield 88, 3) := by decide +kernel
theorem dX8_extension_101 : decode cX8_extension 101 = .ok (.iload_n 3, 1) := by decide +kernel
theorem dX8_extension_102 : decode cX8_extension 102 = .ok (.ireturn, 1) := by decide +kernel
theorem dX8_time_0 : decode cX8_time 0 = .ok (.aload_n 0, 1) := by decide +kernel
theorem dX8_time_1 : decode cX8_time 1 = .ok (.iload_n 3, 1) := by decide +kernel
theorem dX8_time_2 : decode cX8_time 2 = .ok (.ifCond .lt 9, 3) := by decide +kernel
theorem dX8_time_5 : decode cX8_time 5 = .ok (.iload_n 3, 1) := by decide +kernel
theorem dX8_time_6 : decode cX8_time 6 = .ok (.ldc 130, 2) := by decide +kernel
theorem dX8_time_8 : decode cX8_time 8 = .ok (.if_icmp .le 7, 3) := by decide +kernel
theorem dX8_time_11 : decode cX8_time 11 = .ok (.iconst 1, 1) := by decide +kernel
theorem dX8_time_12 : decode cX8_time 12 = .ok (.goto 18, 3) := by decide +kernel
theorem dX8_time_15 : decode cX8_time 15 = .ok (.aload_n 0, 1) := by decide +kernel
theorem dX8_time_16 : decode cX8_time 16 = .ok (.getfield 107, 3) := by decide +kernel
theorem dX8_time_19 : decode cX8_time 19 = .ok (.sipush 3000, 3) := by decide +kernel
theorem dX8_time_22 : decode cX8_time 22 = .ok (.if_icmp .ne 7, 3) := by decide +kernel
theorem dX8_time_25 : decode cX8_time 25 = .ok (.iconst 2, 1) := by decide +kernel
theorem dX8_time_26 : decode cX8_time 26 = .ok (.goto 4, 3) := by decide +kernel
theorem dX8_time_29 : decode cX8_time 29 = .ok (.iconst 0, 1) := by decide +kernel
theorem dX8_time_30 : decode cX8_time 30 = .ok (.putfield 71, 3) := by decide +kernel
theorem dX8_time_33 : decode cX8_time 33 = .ok (.aload_n 0, 1) := by decide +kernel
theorem dX8_time_34 : decode cX8_time 34 = .ok (.getfield 71, 3) := by decide +kernel
theorem dX8_time_37 : decode cX8_time 37 = .ok (.ifCond .le 5, 3) := by decide +kernel
theorem dX8_time_40 : decode cX8_time 40 = .ok (.iconst 0, 1) := by decide +kernel
theorem dX8_time_41 : decode cX8_time 41 = .ok (.ireturn, 1) := by decide +kernel
theorem dX8_time_42 : decode cX8_time 42 = .ok (.aload_n 0, 1) := by decide +kernel
theorem dX8_time_43 : decode cX8_time 43 = .ok (.bipush 10, 2) := by decide +kernel
theorem dX8_time_45 : decode cX8_time 45 = .ok (.lload_n 1, 1) := by decide +kernel
theorem dX8_time_46 : decode cX8_time 46 = .ok (.invokevirtual 110, 3) := by decide +kernel
theorem dX8_time_49 : decode cX8_time 49 = .ok (.istore 4, 2) := by decide +kernel
theorem dX8_time_51 : decode cX8_time 51 = .ok (.aload_n 0, 1) := by decide +kernel
theorem dX8_time_52 : decode cX8_time 52 = .ok (.getfield 29, 3) := by decide +kernel
theorem dX8_time_55 : decode cX8_time 55 = .ok (.iload 4, 2) := by decide +kernel
theorem dX8_time_57 : decode cX8_time 57 = .ok (.iload_n 3, 1) := by decide +kernel
theorem dX8_time_58 : decode cX8_time 58 = .ok (.iastore, 1) := by decide +kernel
theorem dX8_time_59 : decode cX8_time 59 = .ok (.iload 4, 2) := by decide +kernel
theorem dX8_time_61 : decode cX8_time 61 = .ok (.ireturn, 1) := by decide +kernel
theorem dX8_group_0 : decode cX8_group 0 = .ok (.aload_n 0, 1) := by decide +kernel
theorem dX8_group_1 : decode cX8_group 1 = .ok (.iload_n 1, 1) := by decide +kernel
theorem dX8_group_2 : decode cX8_group 2 = .ok (.invokestatic 100, 3) := by decide +kernel
theorem dX8_group_5 : decode cX8_group 5 = .ok (.ifCond .ne 7, 3) := by decide +kernel
theorem dX8_group_8 : decode cX8_group 8 = .ok (.iconst 1, 1) := by decide +kernel
theorem dX8_group_9 : decode cX8_group 9 = .ok (.goto 18, 3) := by decide +kernel
theorem dX8_group_12 : decode cX8_group 12 = .ok (.aload_n 0, 1) := by decide +kernel
theorem dX8_group_13 : decode cX8_group 13 = .ok (.getfield 107, 3) := by decide +kernel
theorem dX8_group_16 : decode cX8_group 16 = .ok (.sipush 3000, 3) := by decide +kernel
theorem dX8_group_19 : decode cX8_group 19 = .ok (.if_icmp .ne 7, 3) := by decide +kernel
theorem dX8_group_22 : decode cX8_group 22 = .ok (.iconst 2, 1) := by decide +kernel
theorem dX8_group_23 : decode cX8_group 23 = .ok (.goto 4, 3) := by decide +kernel
theorem dX8_group_26 : decode cX8_group 26 = .ok (.iconst 0, 1) := by decide +kernel
theorem dX8_group_27 : decode cX8_group 27 = .ok (.putfield 71, 3) := by decide +kernel
theorem dX8_group_30 : decode cX8_group 30 = .ok (.aload_n 0, 1) := by decide +kernel
theorem dX8_group_31 : decode cX8_group 31 = .ok (.getfield 71, 3) := by decide +kernel
theorem dX8_group_34 : decode cX8_group 34 = .ok (.ifCond .le 7, 3) := by decide +kernel
theorem dX8_group_37 : decode cX8_group 37 = .ok (.iconst 0, 1) := by decide +kernel
theorem dX8_group_38 : decode cX8_group 38 = .ok (.goto 9, 3) := by decide +kernel
theorem dX8_group_41 : decode cX8_group 41 = .ok (.aload_n 0, 1) := by decide +kernel
theorem dX8_group_42 : decode cX8_group 42 = .ok (.iload_n 1, 1) := by decide +kernel
theorem dX8_group_43 : decode cX8_group 43 = .ok (.lconst 0, 1) := by decide +kernel
theorem dX8_group_44 : decode cX8_group 44 = .ok (.invokevirtual 110, 3) := by decide +kernel
theorem dX8_group_47 : decode cX8_group 47 = .ok (.ireturn, 1) := by decide +kernel
theorem dX8_add_0 : decode cX8_add 0 = .ok (.aload_n 0, 1) := by decide +kernel
theorem dX8_add_1 : decode cX8_add 1 = .ok (.aload_n 0, 1) := by decide +kernel
theorem dX8_add_2 : decode cX8_add 2 = .ok (.iload_n 1, 1) := by decide +kernel
theorem dX8_add_3 : decode cX8_add 3 = .ok (.invokevirtual 131, 3) := by decide +kernel
theorem dX8_add_6 : decode cX8_add 6 = .ok (.ifCond .eq 11, 3) := by decide +kernel
theorem dX8_add_9 : decode cX8_add 9 = .ok (.aload_n 0, 1) := by decide +kernel
theorem dX8_add_10 : decode cX8_add 10 = .ok (.iload_n 2, 1) := by decide +kernel
theorem dX8_add_11 : decode cX8_add 11 = .ok (.invokevirtual 131, 3) := by decide +kernel
theorem dX8_add_14 : decode cX8_add 14 = .ok (.ifCond .ne 7, 3) := by decide +kernel
theorem dX8_add_17 : decode cX8_add 17 = .ok (.iconst 1, 1) := by decide +kernel
theorem dX8_add_18 : decode cX8_add 18 = .ok (.goto 33, 3) := by decide +kernel
theorem dX8_add_21 : decode cX8_add 21 = .ok (.aload_n 0, 1) := by decide +kernel
theorem dX8_add_22 : decode cX8_add 22 = .ok (.getfield 17, 3) := by decide +kernel
theorem dX8_add_25 : decode cX8_add 25 = .ok (.iload_n 1, 1) := by decide +kernel
theorem dX8_add_26 : decode cX8_add 26 = .ok (.iaload, 1) := by decide +kernel
theorem dX8_add_27 : decode cX8_add 27 = .ok (.bipush 7, 2) := by decide +kernel
theorem dX8_add_29 : decode cX8_add 29 = .ok (.if_icmp .eq 7, 3) := by decide +kernel
theorem dX8_add_32 : decode cX8_add 32 = .ok (.iconst 2, 1) := by decide +kernel
theorem dX8_add_33 : decode cX8_add 33 = .ok (.goto 18, 3) := by decide +kernel
theorem dX8_add_36 : decode cX8_add 36 = .ok (.aload_n 0, 1) := by decide +kernel
theorem dX8_add_37 : decode cX8_add 37 = .ok (.getfield 117, 3) := by decide +kernel
theorem dX8_add_40 : decode cX8_add 40 = .ok (.sipush 6000, 3) := by decide +kernel
theorem dX8_add_43 : decode cX8_add 43 = .ok (.if_icmp .ne 7, 3) := by decide +kernel
theorem dX8_add_46 : decode cX8_add 46 = .ok (.iconst 3, 1) := by decide +kernel
theorem dX8_add_47 : decode cX8_add 47 = .ok (.goto 4, 3) := by decide +kernel
theorem dX8_add_50 : decode cX8_add 50 = .ok (.iconst 0, 1) := by decide +kernel
theorem dX8_add_51 : decode cX8_add 51 = .ok (.putfield 71, 3) := by decide +kernel
theorem dX8_add_54 : decode cX8_add 54 = .ok (.aload_n 0, 1) := by decide +kernel
theorem dX8_add_55 : decode cX8_add 55 = .ok (.getfield 71, 3) := by decide +kernel
theorem dX8_add_58 : decode cX8_add 58 = .ok (.ifCond .le 5, 3) := by decide +kernel
theorem dX8_add_61 : decode cX8_add 61 = .ok (.iconst 0, 1) := by decide +kernel
theorem dX8_add_62 : decode cX8_add 62 = .ok (.ireturn, 1) := by decide +kernel
theorem dX8_add_63 : decode cX8_add 63 = .ok (.aload_n 0, 1) := by decide +kernel
theorem dX8_add_64 : decode cX8_add 64 = .ok (.iload_n 1, 1) := by decide +kernel
theorem dX8_add_65 : decode cX8_add 65 = .ok (.iload_n 2, 1) := by decide +kernel
theorem dX8_add_66 : decode cX8_add 66 = .ok (.invokevirtual 134, 3) := by decide +kernel
theorem dX8_add_69 : decode cX8_add 69 = .ok (.aload_n 0, 1) := by decide +kernel
theorem dX8_add_70 : decode cX8_add 70 = .ok (.getfield 38, 3) := by decide +kernel
theorem dX8_add_73 : decode cX8_add 73 = .ok (.iload_n 1, 1) := by decide +kernel
theorem dX8_add_74 : decode cX8_add 74 = .ok (.dup2, 1) := by decide +kernel
theorem dX8_add_75 : decode cX8_add 75 = .ok (.iaload, 1) := by decide +kernel
theorem dX8_add_76 : decode cX8_add 76 = .ok (.iconst 1, 1) := by decide +kernel
theorem dX8_add_77 : decode cX8_add 77 = .ok (.iadd, 1) := by decide +kernel
theorem dX8_add_78 : decode cX8_add 78 = .ok (.iastore, 1) := by decide +kernel
theorem dX8_add_79 : decode cX8_add 79 = .ok (.aload_n 0, 1) := by decide +kernel
theorem dX8_add_80 : decode cX8_add 80 = .ok (.getfield 38, 3) := by decide +kernel
theorem dX8_add_83 : decode cX8_add 83 = .ok (.iload_n 1, 1) := by decide +kernel
theorem dX8_add_84 : decode cX8_add 84 = .ok (.iaload, 1) := by decide +kernel
theorem dX8_add_85 : decode cX8_add 85 = .ok (.ireturn, 1) := by decide +kernel
theorem dX8_put_0 : decode cX8_put 0 = .ok (.aload_n 0, 1) := by decide +kernel
theorem dX8_put_1 : decode cX8_put 1 = .ok (.aload_n 0, 1) := by decide +kernel
theorem dX8_put_2 : decode cX8_put 2 = .ok (.iload_n 1, 1) := by decide +kernel
theorem dX8_put_3 : decode cX8_put 3 = .ok (.invokevirtual 131, 3) := by decide +kernel
theorem dX8_put_6 : decode cX8_put 6 = .ok (.ifCond .eq 19, 3) := by decide +kernel
theorem dX8_put_9 : decode cX8_put 9 = .ok (.aload_n 0, 1) := by decide +kernel
theorem dX8_put_10 : decode cX8_put 10 = .ok (.iload_n 2, 1) := by decide +kernel
theorem dX8_put_11 : decode cX8_put 11 = .ok (.invokevirtual 131, 3) := by decide +kernel
theorem dX8_put_14 : decode cX8_put 14 = .ok (.ifCond .eq 11, 3) := by decide +kernel
theorem dX8_put_17 : decode cX8_put 17 = .ok (.aload_n 0, 1) := by decide +kernel
theorem dX8_put_18 : decode cX8_put 18 = .ok (.iload_n 3, 1) := by decide +kernel
theorem dX8_put_19 : decode cX8_put 19 = .ok (.invokevirtual 131, 3) := by decide +kernel
theorem dX8_put_22 : decode cX8_put 22 = .ok (.ifCond .ne 7, 3) := by decide +kernel
theorem dX8_put_25 : decode cX8_put 25 = .ok (.iconst 1, 1) := by decide +kernel
theorem dX8_put_26 : decode cX8_put 26 = .ok (.goto 35, 3) := by decide +kernel
theorem dX8_put_29 : decode cX8_put 29 = .ok (.aload_n 0, 1) := by decide +kernel
theorem dX8_put_30 : decode cX8_put 30 = .ok (.getfield 17, 3) := by decide +kernel
theorem dX8_put_33 : decode cX8_put 33 = .ok (.iload_n 1, 1) := by decide +kernel
theorem dX8_put_34 : decode cX8_put 34 = .ok (.iaload, 1) := by decide +kernel
theorem dX8_put_35 : decode cX8_put 35 = .ok (.bipush 8, 2) := by decide +kernel
theorem dX8_put_37 : decode cX8_put 37 = .ok (.if_icmp .eq 7, 3) := by decide +kernel
theorem dX8_put_40 : decode cX8_put 40 = .ok (.iconst 2, 1) := by decide +kernel
theorem dX8_put_41 : decode cX8_put 41 = .ok (.goto 20, 3) := by decide +kernel
theorem dX8_put_44 : decode cX8_put 44 = .ok (.aload_n 0, 1) := by decide +kernel
theorem dX8_put_45 : decode cX8_put 45 = .ok (.getfield 117, 3) := by decide +kernel
theorem dX8_put_48 : decode cX8_put 48 = .ok (.iconst 2, 1) := by decide +kernel
theorem dX8_put_49 : decode cX8_put 49 = .ok (.iadd, 1) := by decide +kernel
theorem dX8_put_50 : decode cX8_put 50 = .ok (.sipush 6000, 3) := by decide +kernel
theorem dX8_put_53 : decode cX8_put 53 = .ok (.if_icmp .le 7, 3) := by decide +kernel
theorem dX8_put_56 : decode cX8_put 56 = .ok (.iconst 3, 1) := by decide +kernel
theorem dX8_put_57 : decode cX8_put 57 = .ok (.goto 4, 3) := by decide +kernel
theorem dX8_put_60 : decode cX8_put 60 = .ok (.iconst 0, 1) := by decide +kernel
theorem dX8_put_61 : decode cX8_put 61 = .ok (.putfield 71, 3) := by decide +kernel
theorem dX8_put_64 : decode cX8_put 64 = .ok (.aload_n 0, 1) := by decide +kernel
theorem dX8_put_65 : decode cX8_put 65 = .ok (.getfield 71, 3) := by decide +kernel
theorem dX8_put_68 : decode cX8_put 68 = .ok (.ifCond .le 5, 3) := by decide +kernel
theorem dX8_put_71 : decode cX8_put 71 = .ok (.iconst 0, 1) := by decide +kernel
theorem dX8_put_72 : decode cX8_put 72 = .ok (.ireturn, 1) := by decide +kernel
theorem dX8_put_73 : decode cX8_put 73 = .ok (.aload_n 0, 1) := by decide +kernel
theorem dX8_put_74 : decode cX8_put 74 = .ok (.iload_n 1, 1) := by decide +kernel
theorem dX8_put_75 : decode cX8_put 75 = .ok (.iload_n 2, 1) := by decide +kernel
theorem dX8_put_76 : decode cX8_put 76 = .ok (.invokevirtual 134, 3) := by decide +kernel
theorem dX8_put_79 : decode cX8_put 79 = .ok (.aload_n 0, 1) := by decide +kernel
theorem dX8_put_80 : decode cX8_put 80 = .ok (.iload_n 1, 1) := by decide +kernel
theorem dX8_put_81 : decode cX8_put 81 = .ok (.iload_n 3, 1) := by decide +kernel
theorem dX8_put_82 : decode cX8_put 82 = .ok (.invokevirtual 134, 3) := by decide +kernel
theorem dX8_put_85 : decode cX8_put 85 = .ok (.aload_n 0, 1) := by decide +kernel
theorem dX8_put_86 : decode cX8_put 86 = .ok (.getfield 38, 3) := by decide +kernel
theorem dX8_put_89 : decode cX8_put 89 = .ok (.iload_n 1, 1) := by decide +kernel
theorem dX8_put_90 : decode cX8_put 90 = .ok (.dup2, 1) := by decide +kernel
theorem dX8_put_91 : decode cX8_put 91 = .ok (.iaload, 1) := by decide +kernel
theorem dX8_put_92 : decode cX8_put 92 = .ok (.iconst 1, 1) := by decide +kernel
theorem dX8_put_93 : decode cX8_put 93 = .ok (.iadd, 1) := by decide +kernel
theorem dX8_put_94 : decode cX8_put 94 = .ok (.iastore, 1) := by decide +kernel
theorem dX8_put_95 : decode cX8_put 95 = .ok (.aload_n 0, 1) := by decide +kernel
theorem dX8_put_96 : decode cX8_put 96 = .ok (.getfield 38, 3) := by decide +kernel
theorem dX8_put_99 : decode cX8_put 99 = .ok (.iload_n 1, 1) := by decide +kernel
theorem dX8_put_100 : decode cX8_put 100 = .ok (.iaload, 1) := by decide +kernel
theorem dX8_put_101 : decode cX8_put 101 = .ok (.ireturn, 1) := by decide +kernel
theorem dX8_fail_0 : decode cX8_fail 0 = .ok (.aload_n 0, 1) := by decide +kernel
theorem dX8_fail_1 : decode cX8_fail 1 = .ok (.iload_n 1, 1) := by decide +kernel
theorem dX8_fail_2 : decode cX8_fail 2 = .ok (.putfield 138, 3) := by decide +kernel
theorem dX8_fail_5 : decode cX8_fail 5 = .ok (.aload_n 0, 1) := by decide +kernel
theorem dX8_fail_6 : decode cX8_fail 6 = .ok (.iload_n 2, 1) := by decide +kernel
theorem dX8_fail_7 : decode cX8_fail 7 = .ok (.putfield 141, 3) := by decide +kernel
theorem dX8_fail_10 : decode cX8_fail 10 = .ok (.iconst 0, 1) := by decide +kernel
theorem dX8_fail_11 : decode cX8_fail 11 = .ok (.ireturn, 1) := by decide +kernel
theorem dX8_readOne_0 : decode cX8_readOne 0 = .ok (.aload_n 0, 1) := by decide +kernel
theorem dX8_readOne_1 : decode cX8_readOne 1 = .ok (.getfield 144, 3) := by decide +kernel
theorem dX8_readOne_4 : decode cX8_readOne 4 = .ok (.istore_n 1, 1) := by decide +kernel
theorem dX8_readOne_5 : decode cX8_readOne 5 = .ok (.iload_n 1, 1) := by decide +kernel
theorem dX8_readOne_6 : decode cX8_readOne 6 = .ok (.aload_n 0, 1) := by decide +kernel
theorem dX8_readOne_7 : decode cX8_readOne 7 = .ok (.getfield 88, 3) := by decide +kernel
theorem dX8_readOne_10 : decode cX8_readOne 10 = .ok (.if_icmp .lt 13, 3) := by decide +kernel
theorem dX8_readOne_13 : decode cX8_readOne 13 = .ok (.aload_n 0, 1) := by decide +kernel
theorem dX8_readOne_14 : decode cX8_readOne 14 = .ok (.iconst 1, 1) := by decide +kernel
theorem dX8_readOne_15 : decode cX8_readOne 15 = .ok (.aload_n 0, 1) := by decide +kernel
theorem dX8_readOne_16 : decode cX8_readOne 16 = .ok (.getfield 88, 3) := by decide +kernel
theorem dX8_readOne_19 : decode cX8_readOne 19 = .ok (.invokevirtual 147, 3) := by decide +kernel
theorem dX8_readOne_22 : decode cX8_readOne 22 = .ok (.ireturn, 1) := by decide +kernel
theorem dX8_readOne_23 : decode cX8_readOne 23 = .ok (.aload_n 0, 1) := by decide +kernel
theorem dX8_readOne_24 : decode cX8_readOne 24 = .ok (.getfield 8, 3) := by decide +kernel
theorem dX8_readOne_27 : decode cX8_readOne 27 = .ok (.iload_n 1, 1) := by decide +kernel
theorem dX8_readOne_28 : decode cX8_readOne 28 = .ok (.baload, 1) := by decide +kernel
theorem dX8_readOne_29 : decode cX8_readOne 29 = .ok (.sipush 255, 3) := by decide +kernel
theorem dX8_readOne_32 : decode cX8_readOne 32 = .ok (.iand, 1) := by decide +kernel
theorem dX8_readOne_33 : decode cX8_readOne 33 = .ok (.istore_n 2, 1) := by decide +kernel
theorem dX8_readOne_34 : decode cX8_readOne 34 = .ok (.iload_n 2, 1) := by decide +kernel
theorem dX8_readOne_35 : decode cX8_readOne 35 = .ok (.invokestatic 77, 3) := by decide +kernel
theorem dX8_readOne_38 : decode cX8_readOne 38 = .ok (.istore_n 3, 1) := by decide +kernel
theorem dX8_readOne_39 : decode cX8_readOne 39 = .ok (.iload_n 3, 1) := by decide +kernel
theorem dX8_readOne_40 : decode cX8_readOne 40 = .ok (.ifCond .ge 10, 3) := by decide +kernel
theorem dX8_readOne_43 : decode cX8_readOne 43 = .ok (.aload_n 0, 1) := by decide +kernel
theorem dX8_readOne_44 : decode cX8_readOne 44 = .ok (.iconst 2, 1) := by decide +kernel
theorem dX8_readOne_45 : decode cX8_readOne 45 = .ok (.iload_n 1, 1) := by decide +kernel
theorem dX8_readOne_46 : decode cX8_readOne 46 = .ok (.invokevirtual 147, 3) := by decide +kernel
theorem dX8_readOne_49 : decode cX8_readOne 49 = .ok (.ireturn, 1) := by decide +kernel
theorem dX8_readOne_50 : decode cX8_readOne 50 = .ok (.iload_n 1, 1) := by decide +kernel
theorem dX8_readOne_51 : decode cX8_readOne 51 = .ok (.iload_n 2, 1) := by decide +kernel
theorem dX8_readOne_52 : decode cX8_readOne 52 = .ok (.invokestatic 91, 3) := by decide +kernel
theorem dX8_readOne_55 : decode cX8_readOne 55 = .ok (.iadd, 1) := by decide +kernel
theorem dX8_readOne_56 : decode cX8_readOne 56 = .ok (.aload_n 0, 1) := by decide +kernel
theorem dX8_readOne_57 : decode cX8_readOne 57 = .ok (.getfield 88, 3) := by decide +kernel
theorem dX8_readOne_60 : decode cX8_readOne 60 = .ok (.if_icmp .le 10, 3) := by decide +kernel
theorem dX8_readOne_63 : decode cX8_readOne 63 = .ok (.aload_n 0, 1) := by decide +kernel
theorem dX8_readOne_64 : decode cX8_readOne 64 = .ok (.iconst 1, 1) := by decide +kernel
theorem dX8_readOne_65 : decode cX8_readOne 65 = .ok (.iload_n 1, 1) := by decide +kernel
theorem dX8_readOne_66 : decode cX8_readOne 66 = .ok (.invokevirtual 147, 3) := by decide +kernel
theorem dX8_readOne_69 : decode cX8_readOne 69 = .ok (.ireturn, 1) := by decide +kernel
theorem dX8_readOne_70 : decode cX8_readOne 70 = .ok (.aload_n 0, 1) := by decide +kernel
theorem dX8_readOne_71 : decode cX8_readOne 71 = .ok (.iload_n 2, 1) := by decide +kernel
theorem dX8_readOne_72 : decode cX8_readOne 72 = .ok (.iload_n 1, 1) := by decide +kernel
theorem dX8_readOne_73 : decode cX8_readOne 73 = .ok (.invokevirtual 94, 3) := by decide +kernel
theorem dX8_readOne_76 : decode cX8_readOne 76 = .ok (.lstore 4, 2) := by decide +kernel
theorem dX8_readOne_78 : decode cX8_readOne 78 = .ok (.iload_n 3, 1) := by decide +kernel
theorem dX8_readOne_79 : decode cX8_readOne 79 = .ok (.invokestatic 100, 3) := by decide +kernel
theorem dX8_readOne_82 : decode cX8_readOne 82 = .ok (.ifCond .eq 12, 3) := by decide +kernel
theorem dX8_readOne_85 : decode cX8_readOne 85 = .ok (.aload_n 0, 1) := by decide +kernel
theorem dX8_readOne_86 : decode cX8_readOne 86 = .ok (.iload_n 3, 1) := by decide +kernel
theorem dX8_readOne_87 : decode cX8_readOne 87 = .ok (.lload 4, 2) := by decide +kernel
theorem dX8_readOne_89 : decode cX8_readOne 89 = .ok (.iload_n 1, 1) := by decide +kernel
theorem dX8_readOne_90 : decode cX8_readOne 90 = .ok (.invokevirtual 151, 3) := by decide +kernel
theorem dX8_readOne_93 : decode cX8_readOne 93 = .ok (.ireturn, 1) := by decide +kernel
theorem dX8_readOne_94 : decode cX8_readOne 94 = .ok (.lload 4, 2) := by decide +kernel
theorem dX8_readOne_96 : decode cX8_readOne 96 = .ok (.aload_n 0, 1) := by decide +kernel
theorem dX8_readOne_97 : decode cX8_readOne 97 = .ok (.getfield 88, 3) := by decide +kernel
theorem dX8_readOne_100 : decode cX8_readOne 100 = .ok (.iload_n 1, 1) := by decide +kernel
theorem dX8_readOne_101 : decode cX8_readOne 101 = .ok (.isub, 1) := by decide +kernel
theorem dX8_readOne_102 : decode cX8_readOne 102 = .ok (.iload_n 2, 1) := by decide +kernel
theorem dX8_readOne_103 : decode cX8_readOne 103 = .ok (.invokestatic 91, 3) := by decide +kernel
theorem dX8_readOne_106 : decode cX8_readOne 106 = .ok (.isub, 1) := by decide +kernel
theorem dX8_readOne_107 : decode cX8_readOne 107 = .ok (.i2l, 1) := by decide +kernel
theorem dX8_readOne_108 : decode cX8_readOne 108 = .ok (.lcmp, 1) := by decide +kernel
theorem dX8_readOne_109 : decode cX8_readOne 109 = .ok (.ifCond .le 10, 3) := by decide +kernel
theorem dX8_readOne_112 : decode cX8_readOne 112 = .ok (.aload_n 0, 1) := by decide +kernel
theorem dX8_readOne_113 : decode cX8_readOne 113 = .ok (.iconst 1, 1) := by decide +kernel
theorem dX8_readOne_114 : decode cX8_readOne 114 = .ok (.iload_n 1, 1) := by decide +kernel
theorem dX8_readOne_115 : decode cX8_readOne 115 = .ok (.invokevirtual 147, 3) := by decide +kernel
theorem dX8_readOne_118 : decode cX8_readOne 118 = .ok (.ireturn, 1) := by decide +kernel
theorem dX8_readOne_119 : decode cX8_readOne 119 = .ok (.iload_n 1, 1) := by decide +kernel
theorem dX8_readOne_120 : decode cX8_readOne 120 = .ok (.iload_n 2, 1) := by decide +kernel
theorem dX8_readOne_121 : decode cX8_readOne 121 = .ok (.invokestatic 91, 3) := by decide +kernel
theorem dX8_readOne_124 : decode cX8_readOne 124 = .ok (.iadd, 1) := by decide +kernel
theorem dX8_readOne_125 : decode cX8_readOne 125 = .ok (.istore 6, 2) := by decide +kernel
theorem dX8_readOne_127 : decode cX8_readOne 127 = .ok (.iload_n 3, 1) := by decide +kernel
theorem dX8_readOne_128 : decode cX8_readOne 128 = .ok (.bipush 9, 2) := by decide +kernel
theorem dX8_readOne_130 : decode cX8_readOne 130 = .ok (.if_icmp .ne 15, 3) := by decide +kernel
theorem dX8_readOne_133 : decode cX8_readOne 133 = .ok (.aload_n 0, 1) := by decide +kernel
theorem dX8_readOne_134 : decode cX8_readOne 134 = .ok (.getfield 8, 3) := by decide +kernel
theorem dX8_readOne_137 : decode cX8_readOne 137 = .ok (.iload 6, 2) := by decide +kernel
theorem dX8_readOne_139 : decode cX8_readOne 139 = .ok (.iconst 1, 1) := by decide +kernel
theorem dX8_readOne_140 : decode cX8_readOne 140 = .ok (.isub, 1) := by decide +kernel
theorem dX8_readOne_141 : decode cX8_readOne 141 = .ok (.baload, 1) := by decide +kernel
theorem dX8_readOne_142 : decode cX8_readOne 142 = .ok (.goto 4, 3) := by decide +kernel
theorem dX8_readOne_145 : decode cX8_readOne 145 = .ok (.iconst 1, 1) := by decide +kernel
theorem dX8_readOne_146 : decode cX8_readOne 146 = .ok (.istore 7, 2) := by decide +kernel
theorem dX8_readOne_148 : decode cX8_readOne 148 = .ok (.iload_n 3, 1) := by decide +kernel
theorem dX8_readOne_149 : decode cX8_readOne 149 = .ok (.iconst 5, 1) := by decide +kernel
theorem dX8_readOne_150 : decode cX8_readOne 150 = .ok (.if_icmp .ne 49, 3) := by decide +kernel
theorem dX8_readOne_153 : decode cX8_readOne 153 = .ok (.aload_n 0, 1) := by decide +kernel
theorem dX8_readOne_154 : decode cX8_readOne 154 = .ok (.getfield 8, 3) := by decide +kernel
theorem dX8_readOne_157 : decode cX8_readOne 157 = .ok (.iload 6, 2) := by decide +kernel
theorem dX8_readOne_159 : decode cX8_readOne 159 = .ok (.iload 6, 2) := by decide +kernel
theorem dX8_readOne_161 : decode cX8_readOne 161 = .ok (.lload 4, 2) := by decide +kernel
theorem dX8_readOne_163 : decode cX8_readOne 163 = .ok (.l2i, 1) := by decide +kernel
theorem dX8_readOne_164 : decode cX8_readOne 164 = .ok (.iadd, 1) := by decide +kernel
theorem dX8_readOne_165 : decode cX8_readOne 165 = .ok (.invokestatic 122, 3) := by decide +kernel
theorem dX8_readOne_168 : decode cX8_readOne 168 = .ok (.i2l, 1) := by decide +kernel
theorem dX8_readOne_169 : decode cX8_readOne 169 = .ok (.lload 4, 2) := by decide +kernel
theorem dX8_readOne_171 : decode cX8_readOne 171 = .ok (.lcmp, 1) := by decide +kernel
theorem dX8_readOne_172 : decode cX8_readOne 172 = .ok (.ifCond .ge 27, 3) := by decide +kernel
theorem dX8_readOne_175 : decode cX8_readOne 175 = .ok (.aload_n 0, 1) := by decide +kernel
theorem dX8_readOne_176 : decode cX8_readOne 176 = .ok (.iconst 3, 1) := by decide +kernel
theorem dX8_readOne_177 : decode cX8_readOne 177 = .ok (.iload 6, 2) := by decide +kernel
theorem dX8_readOne_179 : decode cX8_readOne 179 = .ok (.aload_n 0, 1) := by decide +kernel
theorem dX8_readOne_180 : decode cX8_readOne 180 = .ok (.getfield 8, 3) := by decide +kernel
theorem dX8_readOne_183 : decode cX8_readOne 183 = .ok (.iload 6, 2) := by decide +kernel
theorem dX8_readOne_185 : decode cX8_readOne 185 = .ok (.iload 6, 2) := by decide +kernel
theorem dX8_readOne_187 : decode cX8_readOne 187 = .ok (.lload 4, 2) := by decide +kernel
theorem dX8_readOne_189 : decode cX8_readOne 189 = .ok (.l2i, 1) := by decide +kernel
theorem dX8_readOne_190 : decode cX8_readOne 190 = .ok (.iadd, 1) := by decide +kernel
theorem dX8_readOne_191 : decode cX8_readOne 191 = .ok (.invokestatic 122, 3) := by decide +kernel
theorem dX8_readOne_194 : decode cX8_readOne 194 = .ok (.iadd, 1) := by decide +kernel
theorem dX8_readOne_195 : decode cX8_readOne 195 = .ok (.invokevirtual 147, 3) := by decide +kernel
theorem dX8_readOne_198 : decode cX8_readOne 198 = .ok (.ireturn, 1) := by decide +kernel
theorem dX8_readOne_199 : decode cX8_readOne 199 = .ok (.iload_n 3, 1) := by decide +kernel
theorem dX8_readOne_200 : decode cX8_readOne 200 = .ok (.bipush 9, 2) := by decide +kernel
theorem dX8_readOne_202 : decode cX8_readOne 202 = .ok (.if_icmp .ne 29, 3) := by decide +kernel
theorem dX8_readOne_205 : decode cX8_readOne 205 = .ok (.iload 7, 2) := by decide +kernel
theorem dX8_readOne_207 : decode cX8_readOne 207 = .ok (.ifCond .ne 24, 3) := by decide +kernel
theorem dX8_readOne_210 : decode cX8_readOne 210 = .ok (.aload_n 0, 1) := by decide +kernel
theorem dX8_readOne_211 : decode cX8_readOne 211 = .ok (.iload 6, 2) := by decide +kernel
theorem dX8_readOne_213 : decode cX8_readOne 213 = .ok (.lload 4, 2) := by decide +kernel
theorem dX8_readOne_215 : decode cX8_readOne 215 = .ok (.l2i, 1) := by decide +kernel
theorem dX8_readOne_216 : decode cX8_readOne 216 = .ok (.iadd, 1) := by decide +kernel
theorem dX8_readOne_217 : decode cX8_readOne 217 = .ok (.putfield 144, 3) := by decide +kernel
theorem dX8_readOne_220 : decode cX8_readOne 220 = .ok (.aload_n 0, 1) := by decide +kernel
theorem dX8_readOne_221 : decode cX8_readOne 221 = .ok (.iload 6, 2) := by decide +kernel
theorem dX8_readOne_223 : decode cX8_readOne 223 = .ok (.lload 4, 2) := by decide +kernel
theorem dX8_readOne_225 : decode cX8_readOne 225 = .ok (.l2i, 1) := by decide +kernel
theorem dX8_readOne_226 : decode cX8_readOne 226 = .ok (.iload_n 1, 1) := by decide +kernel
theorem dX8_readOne_227 : decode cX8_readOne 227 = .ok (.invokevirtual 155, 3) := by decide +kernel
theorem dX8_readOne_230 : decode cX8_readOne 230 = .ok (.ireturn, 1) := by decide +kernel
theorem dX8_readOne_231 : decode cX8_readOne 231 = .ok (.lconst 0, 1) := by decide +kernel
theorem dX8_readOne_232 : decode cX8_readOne 232 = .ok (.lstore 8, 2) := by decide +kernel
theorem dX8_readOne_234 : decode cX8_readOne 234 = .ok (.iload_n 3, 1) := by decide +kernel
theorem dX8_readOne_235 : decode cX8_readOne 235 = .ok (.bipush 9, 2) := by decide +kernel
theorem dX8_readOne_237 : decode cX8_readOne 237 = .ok (.if_icmp .ne 103, 3) := by decide +kernel
theorem dX8_readOne_240 : decode cX8_readOne 240 = .ok (.iload 7, 2) := by decide +kernel
theorem dX8_readOne_242 : decode cX8_readOne 242 = .ok (.iconst (-1), 1) := by decide +kernel
theorem dX8_readOne_243 : decode cX8_readOne 243 = .ok (.if_icmp .ne 97, 3) := by decide +kernel
theorem dX8_readOne_246 : decode cX8_readOne 246 = .ok (.lload 4, 2) := by decide +kernel
theorem dX8_readOne_248 : decode cX8_readOne 248 = .ok (.ldc2_w 159, 3) := by decide +kernel
theorem dX8_readOne_251 : decode cX8_readOne 251 = .ok (.lcmp, 1) := by decide +kernel
theorem dX8_readOne_252 : decode cX8_readOne 252 = .ok (.ifCond .ne 19, 3) := by decide +kernel
theorem dX8_readOne_255 : decode cX8_readOne 255 = .ok (.aload_n 0, 1) := by decide +kernel
theorem dX8_readOne_256 : decode cX8_readOne 256 = .ok (.aload_n 0, 1) := by decide +kernel
theorem dX8_readOne_257 : decode cX8_readOne 257 = .ok (.getfield 8, 3) := by decide +kernel
theorem dX8_readOne_260 : decode cX8_readOne 260 = .ok (.iload 6, 2) := by decide +kernel
theorem dX8_readOne_262 : decode cX8_readOne 262 = .ok (.iconst 4, 1) := by decide +kernel
theorem dX8_readOne_263 : decode cX8_readOne 263 = .ok (.invokevirtual 84, 3) := by decide +kernel
theorem dX8_readOne_266 : decode cX8_readOne 266 = .ok (.iconst 2, 1) := by decide +kernel
theorem dX8_readOne_267 : decode cX8_readOne 267 = .ok (.lshr, 1) := by decide +kernel
theorem dX8_readOne_268 : decode cX8_readOne 268 = .ok (.goto 27, 3) := by decide +kernel
theorem dX8_readOne_271 : decode cX8_readOne 271 = .ok (.lload 4, 2) := by decide +kernel
theorem dX8_readOne_273 : decode cX8_readOne 273 = .ok (.ldc2_w 161, 3) := by decide +kernel
theorem dX8_readOne_276 : decode cX8_readOne 276 = .ok (.lcmp, 1) := by decide +kernel
theorem dX8_readOne_277 : decode cX8_readOne 277 = .ok (.ifCond .ne 17, 3) := by decide +kernel
theorem dX8_readOne_280 : decode cX8_readOne 280 = .ok (.aload_n 0, 1) := by decide +kernel
theorem dX8_readOne_281 : decode cX8_readOne 281 = .ok (.aload_n 0, 1) := by decide +kernel
theorem dX8_readOne_282 : decode cX8_readOne 282 = .ok (.getfield 8, 3) := by decide +kernel
theorem dX8_readOne_285 : decode cX8_readOne 285 = .ok (.iload 6, 2) := by decide +kernel
theorem dX8_readOne_287 : decode cX8_readOne 287 = .ok (.iconst 4, 1) := by decide +kernel
theorem dX8_readOne_288 : decode cX8_readOne 288 = .ok (.invokevirtual 84, 3) := by decide +kernel
theorem dX8_readOne_291 : decode cX8_readOne 291 = .ok (.goto 4, 3) := by decide +kernel
theorem dX8_readOne_294 : decode cX8_readOne 294 = .ok (.lconst 0, 1) := by decide +kernel
theorem dX8_readOne_295 : decode cX8_readOne 295 = .ok (.lstore 8, 2) := by decide +kernel
theorem dX8_readOne_297 : decode cX8_readOne 297 = .ok (.lload 4, 2) := by decide +kernel
theorem dX8_readOne_299 : decode cX8_readOne 299 = .ok (.ldc2_w 163, 3) := by decide +kernel
theorem dX8_readOne_302 : decode cX8_readOne 302 = .ok (.lcmp, 1) := by decide +kernel
theorem dX8_readOne_303 : decode cX8_readOne 303 = .ok (.ifCond .eq 21, 3) := by decide +kernel
theorem dX8_readOne_306 : decode cX8_readOne 306 = .ok (.lload 4, 2) := by decide +kernel
theorem dX8_readOne_308 : decode cX8_readOne 308 = .ok (.ldc2_w 159, 3) := by decide +kernel
theorem dX8_readOne_311 : decode cX8_readOne 311 = .ok (.lcmp, 1) := by decide +kernel
theorem dX8_readOne_312 : decode cX8_readOne 312 = .ok (.ifCond .eq 12, 3) := by decide +kernel
theorem dX8_readOne_315 : decode cX8_readOne 315 = .ok (.lload 4, 2) := by decide +kernel
theorem dX8_readOne_317 : decode cX8_readOne 317 = .ok (.ldc2_w 161, 3) := by decide +kernel
theorem dX8_readOne_320 : decode cX8_readOne 320 = .ok (.lcmp, 1) := by decide +kernel
theorem dX8_readOne_321 : decode cX8_readOne 321 = .ok (.ifCond .ne 12, 3) := by decide +kernel
theorem dX8_readOne_324 : decode cX8_readOne 324 = .ok (.lload 8, 2) := by decide +kernel
theorem dX8_readOne_326 : decode cX8_readOne 326 = .ok (.ldc2_w 165, 3) := by decide +kernel
theorem dX8_readOne_329 : decode cX8_readOne 329 = .ok (.lcmp, 1) := by decide +kernel
theorem dX8_readOne_330 : decode cX8_readOne 330 = .ok (.ifCond .le 10, 3) := by decide +kernel
theorem dX8_readOne_333 : decode cX8_readOne 333 = .ok (.aload_n 0, 1) := by decide +kernel
theorem dX8_readOne_334 : decode cX8_readOne 334 = .ok (.iconst 4, 1) := by decide +kernel
theorem dX8_readOne_335 : decode cX8_readOne 335 = .ok (.iload_n 1, 1) := by decide +kernel
theorem dX8_readOne_336 : decode cX8_readOne 336 = .ok (.invokevirtual 147, 3) := by decide +kernel
theorem dX8_readOne_339 : decode cX8_readOne 339 = .ok (.ireturn, 1) := by decide +kernel
theorem dX8_readOne_340 : decode cX8_readOne 340 = .ok (.iload_n 3, 1) := by decide +kernel
theorem dX8_readOne_341 : decode cX8_readOne 341 = .ok (.iconst 5, 1) := by decide +kernel
theorem dX8_readOne_342 : decode cX8_readOne 342 = .ok (.if_icmp .eq 21, 3) := by decide +kernel
theorem dX8_readOne_345 : decode cX8_readOne 345 = .ok (.iload_n 3, 1) := by decide +kernel
theorem dX8_readOne_346 : decode cX8_readOne 346 = .ok (.bipush 6, 2) := by decide +kernel
theorem dX8_readOne_348 : decode cX8_readOne 348 = .ok (.if_icmp .eq 15, 3) := by decide +kernel
theorem dX8_readOne_351 : decode cX8_readOne 351 = .ok (.iload_n 3, 1) := by decide +kernel
theorem dX8_readOne_352 : decode cX8_readOne 352 = .ok (.bipush 9, 2) := by decide +kernel
theorem dX8_readOne_354 : decode cX8_readOne 354 = .ok (.if_icmp .ne 13, 3) := by decide +kernel
theorem dX8_readOne_357 : decode cX8_readOne 357 = .ok (.iload 7, 2) := by decide +kernel
theorem dX8_readOne_359 : decode cX8_readOne 359 = .ok (.iconst (-1), 1) := by decide +kernel
theorem dX8_readOne_360 : decode cX8_readOne 360 = .ok (.if_icmp .eq 7, 3) := by decide +kernel
theorem dX8_readOne_363 : decode cX8_readOne 363 = .ok (.iconst 1, 1) := by decide +kernel
theorem dX8_readOne_364 : decode cX8_readOne 364 = .ok (.goto 4, 3) := by decide +kernel
theorem dX8_readOne_367 : decode cX8_readOne 367 = .ok (.iconst 0, 1) := by decide +kernel
theorem dX8_readOne_368 : decode cX8_readOne 368 = .ok (.istore 10, 2) := by decide +kernel
theorem dX8_readOne_370 : decode cX8_readOne 370 = .ok (.aload_n 0, 1) := by decide +kernel
theorem dX8_readOne_371 : decode cX8_readOne 371 = .ok (.getfield 107, 3) := by decide +kernel
theorem dX8_readOne_374 : decode cX8_readOne 374 = .ok (.sipush 3000, 3) := by decide +kernel
theorem dX8_readOne_377 : decode cX8_readOne 377 = .ok (.if_icmp .eq 23, 3) := by decide +kernel
theorem dX8_readOne_380 : decode cX8_readOne 380 = .ok (.iload 10, 2) := by decide +kernel
theorem dX8_readOne_382 : decode cX8_readOne 382 = .ok (.ifCond .eq 26, 3) := by decide +kernel
theorem dX8_readOne_385 : decode cX8_readOne 385 = .ok (.aload_n 0, 1) := by decide +kernel
theorem dX8_readOne_386 : decode cX8_readOne 386 = .ok (.getfield 114, 3) := by decide +kernel
theorem dX8_readOne_389 : decode cX8_readOne 389 = .ok (.i2l, 1) := by decide +kernel
theorem dX8_readOne_390 : decode cX8_readOne 390 = .ok (.lload 4, 2) := by decide +kernel
theorem dX8_readOne_392 : decode cX8_readOne 392 = .ok (.ladd, 1) := by decide +kernel
theorem dX8_readOne_393 : decode cX8_readOne 393 = .ok (.ldc2_w 167, 3) := by decide +kernel
theorem dX8_readOne_396 : decode cX8_readOne 396 = .ok (.lcmp, 1) := by decide +kernel
theorem dX8_readOne_397 : decode cX8_readOne 397 = .ok (.ifCond .le 11, 3) := by decide +kernel
theorem dX8_readOne_400 : decode cX8_readOne 400 = .ok (.aload_n 0, 1) := by decide +kernel
theorem dX8_readOne_401 : decode cX8_readOne 401 = .ok (.bipush 7, 2) := by decide +kernel
theorem dX8_readOne_403 : decode cX8_readOne 403 = .ok (.iload_n 1, 1) := by decide +kernel
theorem dX8_readOne_404 : decode cX8_readOne 404 = .ok (.invokevirtual 147, 3) := by decide +kernel
theorem dX8_readOne_407 : decode cX8_readOne 407 = .ok (.ireturn, 1) := by decide +kernel
theorem dX8_readOne_408 : decode cX8_readOne 408 = .ok (.iload 10, 2) := by decide +kernel
theorem dX8_readOne_410 : decode cX8_readOne 410 = .ok (.ifCond .eq 41, 3) := by decide +kernel
theorem dX8_readOne_413 : decode cX8_readOne 413 = .ok (.aload_n 0, 1) := by decide +kernel
theorem dX8_readOne_414 : decode cX8_readOne 414 = .ok (.aload_n 0, 1) := by decide +kernel
theorem dX8_readOne_415 : decode cX8_readOne 415 = .ok (.iload_n 3, 1) := by decide +kernel
theorem dX8_readOne_416 : decode cX8_readOne 416 = .ok (.iload 6, 2) := by decide +kernel
theorem dX8_readOne_418 : decode cX8_readOne 418 = .ok (.lload 4, 2) := by decide +kernel
theorem dX8_readOne_420 : decode cX8_readOne 420 = .ok (.l2i, 1) := by decide +kernel
theorem dX8_readOne_421 : decode cX8_readOne 421 = .ok (.invokevirtual 126, 3) := by decide +kernel
theorem dX8_readOne_424 : decode cX8_readOne 424 = .ok (.putfield 169, 3) := by decide +kernel
theorem dX8_readOne_427 : decode cX8_readOne 427 = .ok (.aload_n 0, 1) := by decide +kernel
theorem dX8_readOne_428 : decode cX8_readOne 428 = .ok (.getfield 29, 3) := by decide +kernel
theorem dX8_readOne_431 : decode cX8_readOne 431 = .ok (.aload_n 0, 1) := by decide +kernel
theorem dX8_readOne_432 : decode cX8_readOne 432 = .ok (.getfield 169, 3) := by decide +kernel
theorem dX8_readOne_435 : decode cX8_readOne 435 = .ok (.iload_n 3, 1) := by decide +kernel
theorem dX8_readOne_436 : decode cX8_readOne 436 = .ok (.bipush 9, 2) := by decide +kernel
theorem dX8_readOne_438 : decode cX8_readOne 438 = .ok (.if_icmp .ne 8, 3) := by decide +kernel
theorem dX8_readOne_441 : decode cX8_readOne 441 = .ok (.iload 7, 2) := by decide +kernel
theorem dX8_readOne_443 : decode cX8_readOne 443 = .ok (.goto 4, 3) := by decide +kernel
theorem dX8_readOne_446 : decode cX8_readOne 446 = .ok (.iconst 0, 1) := by decide +kernel
theorem dX8_readOne_447 : decode cX8_readOne 447 = .ok (.iastore, 1) := by decide +kernel
theorem dX8_readOne_448 : decode cX8_readOne 448 = .ok (.goto 110, 3) := by decide +kernel
theorem dX8_readOne_451 : decode cX8_readOne 451 = .ok (.iload_n 3, 1) := by decide +kernel
theorem dX8_readOne_452 : decode cX8_readOne 452 = .ok (.bipush 9, 2) := by decide +kernel
theorem dX8_readOne_454 : decode cX8_readOne 454 = .ok (.if_icmp .ne 97, 3) := by decide +kernel
theorem dX8_readOne_457 : decode cX8_readOne 457 = .ok (.lload 4, 2) := by decide +kernel
theorem dX8_readOne_459 : decode cX8_readOne 459 = .ok (.ldc2_w 163, 3) := by decide +kernel
theorem dX8_readOne_462 : decode cX8_readOne 462 = .ok (.lcmp, 1) := by decide +kernel
theorem dX8_readOne_463 : decode cX8_readOne 463 = .ok (.ifCond .ne 17, 3) := by decide +kernel
theorem dX8_readOne_466 : decode cX8_readOne 466 = .ok (.aload_n 0, 1) := by decide +kernel
theorem dX8_readOne_467 : decode cX8_readOne 467 = .ok (.aload_n 0, 1) := by decide +kernel
theorem dX8_readOne_468 : decode cX8_readOne 468 = .ok (.getfield 8, 3) := by decide +kernel
theorem dX8_readOne_471 : decode cX8_readOne 471 = .ok (.iload 6, 2) := by decide +kernel
theorem dX8_readOne_473 : decode cX8_readOne 473 = .ok (.iconst 4, 1) := by decide +kernel
theorem dX8_readOne_474 : decode cX8_readOne 474 = .ok (.invokevirtual 84, 3) := by decide +kernel
theorem dX8_readOne_477 : decode cX8_readOne 477 = .ok (.goto 45, 3) := by decide +kernel
theorem dX8_readOne_480 : decode cX8_readOne 480 = .ok (.lload 4, 2) := by decide +kernel
theorem dX8_readOne_482 : decode cX8_readOne 482 = .ok (.ldc2_w 159, 3) := by decide +kernel
theorem dX8_readOne_485 : decode cX8_readOne 485 = .ok (.lcmp, 1) := by decide +kernel
theorem dX8_readOne_486 : decode cX8_readOne 486 = .ok (.ifCond .ne 22, 3) := by decide +kernel
theorem dX8_readOne_489 : decode cX8_readOne 489 = .ok (.aload_n 0, 1) := by decide +kernel
theorem dX8_readOne_490 : decode cX8_readOne 490 = .ok (.aload_n 0, 1) := by decide +kernel
theorem dX8_readOne_491 : decode cX8_readOne 491 = .ok (.getfield 8, 3) := by decide +kernel
theorem dX8_readOne_494 : decode cX8_readOne 494 = .ok (.iload 6, 2) := by decide +kernel
theorem dX8_readOne_496 : decode cX8_readOne 496 = .ok (.bipush 8, 2) := by decide +kernel
theorem dX8_readOne_498 : decode cX8_readOne 498 = .ok (.invokevirtual 84, 3) := by decide +kernel
theorem dX8_readOne_501 : decode cX8_readOne 501 = .ok (.ldc2_w 172, 3) := by decide +kernel
theorem dX8_readOne_504 : decode cX8_readOne 504 = .ok (.land, 1) := by decide +kernel
theorem dX8_readOne_505 : decode cX8_readOne 505 = .ok (.goto 17, 3) := by decide +kernel
theorem dX8_readOne_508 : decode cX8_readOne 508 = .ok (.aload_n 0, 1) := by decide +kernel
theorem dX8_readOne_509 : decode cX8_readOne 509 = .ok (.aload_n 0, 1) := by decide +kernel
theorem dX8_readOne_510 : decode cX8_readOne 510 = .ok (.getfield 8, 3) := by decide +kernel
theorem dX8_readOne_513 : decode cX8_readOne 513 = .ok (.iload 6, 2) := by decide +kernel
theorem dX8_readOne_515 : decode cX8_readOne 515 = .ok (.iconst 4, 1) := by decide +kernel
theorem dX8_readOne_516 : decode cX8_readOne 516 = .ok (.iadd, 1) := by decide +kernel
theorem dX8_readOne_517 : decode cX8_readOne 517 = .ok (.bipush 8, 2) := by decide +kernel
theorem dX8_readOne_519 : decode cX8_readOne 519 = .ok (.invokevirtual 84, 3) := by decide +kernel
theorem dX8_readOne_522 : decode cX8_readOne 522 = .ok (.lstore 11, 2) := by decide +kernel
theorem dX8_readOne_524 : decode cX8_readOne 524 = .ok (.aload_n 0, 1) := by decide +kernel
theorem dX8_readOne_525 : decode cX8_readOne 525 = .ok (.aload_n 0, 1) := by decide +kernel
theorem dX8_readOne_526 : decode cX8_readOne 526 = .ok (.bipush 10, 2) := by decide +kernel
theorem dX8_readOne_528 : decode cX8_readOne 528 = .ok (.lload 11, 2) := by decide +kernel
theorem dX8_readOne_530 : decode cX8_readOne 530 = .ok (.invokevirtual 110, 3) := by decide +kernel
theorem dX8_readOne_533 : decode cX8_readOne 533 = .ok (.putfield 169, 3) := by decide +kernel
theorem dX8_readOne_536 : decode cX8_readOne 536 = .ok (.aload_n 0, 1) := by decide +kernel
theorem dX8_readOne_537 : decode cX8_readOne 537 = .ok (.getfield 29, 3) := by decide +kernel
theorem dX8_readOne_540 : decode cX8_readOne 540 = .ok (.aload_n 0, 1) := by decide +kernel
theorem dX8_readOne_541 : decode cX8_readOne 541 = .ok (.getfield 169, 3) := by decide +kernel
theorem dX8_readOne_544 : decode cX8_readOne 544 = .ok (.lload 8, 2) := by decide +kernel
theorem dX8_readOne_546 : decode cX8_readOne 546 = .ok (.l2i, 1) := by decide +kernel
theorem dX8_readOne_547 : decode cX8_readOne 547 = .ok (.iastore, 1) := by decide +kernel
theorem dX8_readOne_548 : decode cX8_readOne 548 = .ok (.goto 10, 3) := by decide +kernel
theorem dX8_readOne_551 : decode cX8_readOne 551 = .ok (.aload_n 0, 1) := by decide +kernel
theorem dX8_readOne_552 : decode cX8_readOne 552 = .ok (.iload_n 3, 1) := by decide +kernel
theorem dX8_readOne_553 : decode cX8_readOne 553 = .ok (.iload_n 2, 1) := by decide +kernel
theorem dX8_readOne_554 : decode cX8_readOne 554 = .ok (.iload_n 1, 1) := by decide +kernel
theorem dX8_readOne_555 : decode cX8_readOne 555 = .ok (.invokevirtual 174, 3) := by decide +kernel
theorem dX8_readOne_558 : decode cX8_readOne 558 = .ok (.aload_n 0, 1) := by decide +kernel
theorem dX8_readOne_559 : decode cX8_readOne 559 = .ok (.iload 6, 2) := by decide +kernel
theorem dX8_readOne_561 : decode cX8_readOne 561 = .ok (.lload 4, 2) := by decide +kernel
theorem dX8_readOne_563 : decode cX8_readOne 563 = .ok (.l2i, 1) := by decide +kernel
theorem dX8_readOne_564 : decode cX8_readOne 564 = .ok (.iadd, 1) := by decide +kernel
theorem dX8_readOne_565 : decode cX8_readOne 565 = .ok (.putfield 144, 3) := by decide +kernel
theorem dX8_readOne_568 : decode cX8_readOne 568 = .ok (.iconst 1, 1) := by decide +kernel
theorem dX8_readOne_569 : decode cX8_readOne 569 = .ok (.ireturn, 1) := by decide +kernel
theorem dX8_readPlain_0 : decode cX8_readPlain 0 = .ok (.iload_n 1, 1) := by decide +kernel
theorem dX8_readPlain_1 : decode cX8_readPlain 1 = .ok (.iconst 2, 1) := by decide +kernel
theorem dX8_readPlain_2 : decode cX8_readPlain 2 = .ok (.if_icmp .ne 12, 3) := by decide +kernel
theorem dX8_readPlain_5 : decode cX8_readPlain 5 = .ok (.aload_n 0, 1) := by decide +kernel
theorem dX8_readPlain_6 : decode cX8_readPlain 6 = .ok (.iload_n 2, 1) := by decide +kernel
theorem dX8_readPlain_7 : decode cX8_readPlain 7 = .ok (.iload_n 3, 1) := by decide +kernel
theorem dX8_readPlain_8 : decode cX8_readPlain 8 = .ok (.invokevirtual 178, 3) := by decide +kernel
theorem dX8_readPlain_11 : decode cX8_readPlain 11 = .ok (.goto 18, 3) := by decide +kernel
theorem dX8_readPlain_14 : decode cX8_readPlain 14 = .ok (.aload_n 0, 1) := by decide +kernel
theorem dX8_readPlain_15 : decode cX8_readPlain 15 = .ok (.aload_n 0, 1) := by decide +kernel
theorem dX8_readPlain_16 : decode cX8_readPlain 16 = .ok (.getfield 8, 3) := by decide +kernel
theorem dX8_readPlain_19 : decode cX8_readPlain 19 = .ok (.iload_n 3, 1) := by decide +kernel
theorem dX8_readPlain_20 : decode cX8_readPlain 20 = .ok (.iconst 1, 1) := by decide +kernel
theorem dX8_readPlain_21 : decode cX8_readPlain 21 = .ok (.iadd, 1) := by decide +kernel
theorem dX8_readPlain_22 : decode cX8_readPlain 22 = .ok (.iload_n 2, 1) := by decide +kernel
theorem dX8_readPlain_23 : decode cX8_readPlain 23 = .ok (.invokestatic 81, 3) := by decide +kernel
theorem dX8_readPlain_26 : decode cX8_readPlain 26 = .ok (.invokevirtual 84, 3) := by decide +kernel
theorem dX8_readPlain_29 : decode cX8_readPlain 29 = .ok (.lstore 4, 2) := by decide +kernel
theorem dX8_readPlain_31 : decode cX8_readPlain 31 = .ok (.aload_n 0, 1) := by decide +kernel
theorem dX8_readPlain_32 : decode cX8_readPlain 32 = .ok (.aload_n 0, 1) := by decide +kernel
theorem dX8_readPlain_33 : decode cX8_readPlain 33 = .ok (.iload_n 1, 1) := by decide +kernel
theorem dX8_readPlain_34 : decode cX8_readPlain 34 = .ok (.iload_n 1, 1) := by decide +kernel
theorem dX8_readPlain_35 : decode cX8_readPlain 35 = .ok (.iconst 1, 1) := by decide +kernel
theorem dX8_readPlain_36 : decode cX8_readPlain 36 = .ok (.if_icmp .ne 7, 3) := by decide +kernel
theorem dX8_readPlain_39 : decode cX8_readPlain 39 = .ok (.lconst 0, 1) := by decide +kernel
theorem dX8_readPlain_40 : decode cX8_readPlain 40 = .ok (.goto 5, 3) := by decide +kernel
theorem dX8_readPlain_43 : decode cX8_readPlain 43 = .ok (.lload 4, 2) := by decide +kernel
theorem dX8_readPlain_45 : decode cX8_readPlain 45 = .ok (.invokevirtual 110, 3) := by decide +kernel
theorem dX8_readPlain_48 : decode cX8_readPlain 48 = .ok (.putfield 169, 3) := by decide +kernel
theorem dX8_readPlain_51 : decode cX8_readPlain 51 = .ok (.aload_n 0, 1) := by decide +kernel
theorem dX8_readPlain_52 : decode cX8_readPlain 52 = .ok (.getfield 29, 3) := by decide +kernel
theorem dX8_readPlain_55 : decode cX8_readPlain 55 = .ok (.aload_n 0, 1) := by decide +kernel
theorem dX8_readPlain_56 : decode cX8_readPlain 56 = .ok (.getfield 169, 3) := by decide +kernel
theorem dX8_readPlain_59 : decode cX8_readPlain 59 = .ok (.iload_n 2, 1) := by decide +kernel
theorem dX8_readPlain_60 : decode cX8_readPlain 60 = .ok (.sipush 195, 3) := by decide +kernel
theorem dX8_readPlain_63 : decode cX8_readPlain 63 = .ok (.if_icmp .ne 7, 3) := by decide +kernel
theorem dX8_readPlain_66 : decode cX8_readPlain 66 = .ok (.iconst 1, 1) := by decide +kernel
theorem dX8_readPlain_67 : decode cX8_readPlain 67 = .ok (.goto 4, 3) := by decide +kernel
theorem dX8_readPlain_70 : decode cX8_readPlain 70 = .ok (.iconst 0, 1) := by decide +kernel
theorem dX8_readPlain_71 : decode cX8_readPlain 71 = .ok (.iastore, 1) := by decide +kernel
theorem dX8_readPlain_72 : decode cX8_readPlain 72 = .ok (.aload_n 0, 1) := by decide +kernel
theorem dX8_readPlain_73 : decode cX8_readPlain 73 = .ok (.getfield 25, 3) := by decide +kernel
theorem dX8_readPlain_76 : decode cX8_readPlain 76 = .ok (.aload_n 0, 1) := by decide +kernel
theorem dX8_readPlain_77 : decode cX8_readPlain 77 = .ok (.getfield 169, 3) := by decide +kernel
theorem dX8_readPlain_80 : decode cX8_readPlain 80 = .ok (.iload_n 2, 1) := by decide +kernel
theorem dX8_readPlain_81 : decode cX8_readPlain 81 = .ok (.sipush 207, 3) := by decide +kernel
theorem dX8_readPlain_84 : decode cX8_readPlain 84 = .ok (.if_icmp .ne 14, 3) := by decide +kernel
theorem dX8_readPlain_87 : decode cX8_readPlain 87 = .ok (.lload 4, 2) := by decide +kernel
theorem dX8_readPlain_89 : decode cX8_readPlain 89 = .ok (.lconst 0, 1) := by decide +kernel
theorem dX8_readPlain_90 : decode cX8_readPlain 90 = .ok (.lcmp, 1) := by decide +kernel
theorem dX8_readPlain_91 : decode cX8_readPlain 91 = .ok (.ifCond .ge 7, 3) := by decide +kernel
theorem dX8_readPlain_94 : decode cX8_readPlain 94 = .ok (.iconst 1, 1) := by decide +kernel
theorem dX8_readPlain_95 : decode cX8_readPlain 95 = .ok (.goto 4, 3) := by decide +kernel
theorem dX8_readPlain_98 : decode cX8_readPlain 98 = .ok (.iconst 0, 1) := by decide +kernel
theorem dX8_readPlain_99 : decode cX8_readPlain 99 = .ok (.bastore, 1) := by decide +kernel
theorem dX8_readPlain_100 : decode cX8_readPlain 100 = .ok (.return_, 1) := by decide +kernel
theorem dX8_integerAt_0 : decode cX8_integerAt 0 = .ok (.iload_n 1, 1) := by decide +kernel
theorem dX8_integerAt_1 : decode cX8_integerAt 1 = .ok (.sipush 128, 3) := by decide +kernel
theorem dX8_integerAt_4 : decode cX8_integerAt 4 = .ok (.if_icmp .ge 6, 3) := by decide +kernel
theorem dX8_integerAt_7 : decode cX8_integerAt 7 = .ok (.iload_n 1, 1) := by decide +kernel
theorem dX8_integerAt_8 : decode cX8_integerAt 8 = .ok (.i2l, 1) := by decide +kernel
theorem dX8_integerAt_9 : decode cX8_integerAt 9 = .ok (.lreturn, 1) := by decide +kernel
theorem dX8_integerAt_10 : decode cX8_integerAt 10 = .ok (.iload_n 1, 1) := by decide +kernel
theorem dX8_integerAt_11 : decode cX8_integerAt 11 = .ok (.sipush 224, 3) := by decide +kernel
theorem dX8_integerAt_14 : decode cX8_integerAt 14 = .ok (.if_icmp .lt 10, 3) := by decide +kernel
theorem dX8_integerAt_17 : decode cX8_integerAt 17 = .ok (.iload_n 1, 1) := by decide +kernel
theorem dX8_integerAt_18 : decode cX8_integerAt 18 = .ok (.sipush 256, 3) := by decide +kernel
theorem dX8_integerAt_21 : decode cX8_integerAt 21 = .ok (.isub, 1) := by decide +kernel
theorem dX8_integerAt_22 : decode cX8_integerAt 22 = .ok (.i2l, 1) := by decide +kernel
theorem dX8_integerAt_23 : decode cX8_integerAt 23 = .ok (.lreturn, 1) := by decide +kernel
theorem dX8_integerAt_24 : decode cX8_integerAt 24 = .ok (.iload_n 1, 1) := by decide +kernel
theorem dX8_integerAt_25 : decode cX8_integerAt 25 = .ok (.invokestatic 81, 3) := by decide +kernel
theorem dX8_integerAt_28 : decode cX8_integerAt 28 = .ok (.istore_n 3, 1) := by decide +kernel
theorem dX8_integerAt_29 : decode cX8_integerAt 29 = .ok (.aload_n 0, 1) := by decide +kernel
theorem dX8_integerAt_30 : decode cX8_integerAt 30 = .ok (.aload_n 0, 1) := by decide +kernel
theorem dX8_integerAt_31 : decode cX8_integerAt 31 = .ok (.getfield 8, 3) := by decide +kernel
theorem dX8_integerAt_34 : decode cX8_integerAt 34 = .ok (.iload_n 2, 1) := by decide +kernel
theorem dX8_integerAt_35 : decode cX8_integerAt 35 = .ok (.iconst 1, 1) := by decide +kernel
theorem dX8_integerAt_36 : decode cX8_integerAt 36 = .ok (.iadd, 1) := by decide +kernel
theorem dX8_integerAt_37 : decode cX8_integerAt 37 = .ok (.iload_n 3, 1) := by decide +kernel
theorem dX8_integerAt_38 : decode cX8_integerAt 38 = .ok (.invokevirtual 84, 3) := by decide +kernel
theorem dX8_integerAt_41 : decode cX8_integerAt 41 = .ok (.lstore 4, 2) := by decide +kernel
theorem dX8_integerAt_43 : decode cX8_integerAt 43 = .ok (.iload_n 1, 1) := by decide +kernel
theorem dX8_integerAt_44 : decode cX8_integerAt 44 = .ok (.sipush 208, 3) := by decide +kernel
theorem dX8_integerAt_47 : decode cX8_integerAt 47 = .ok (.if_icmp .lt 35, 3) := by decide +kernel
theorem dX8_integerAt_50 : decode cX8_integerAt 50 = .ok (.iload_n 3, 1) := by decide +kernel
theorem dX8_integerAt_51 : decode cX8_integerAt 51 = .ok (.bipush 8, 2) := by decide +kernel
theorem dX8_integerAt_53 : decode cX8_integerAt 53 = .ok (.if_icmp .ge 29, 3) := by decide +kernel
theorem dX8_integerAt_56 : decode cX8_integerAt 56 = .ok (.lload 4, 2) := by decide +kernel
theorem dX8_integerAt_58 : decode cX8_integerAt 58 = .ok (.lconst 1, 1) := by decide +kernel
theorem dX8_integerAt_59 : decode cX8_integerAt 59 = .ok (.bipush 8, 2) := by decide +kernel
theorem dX8_integerAt_61 : decode cX8_integerAt 61 = .ok (.iload_n 3, 1) := by decide +kernel
theorem dX8_integerAt_62 : decode cX8_integerAt 62 = .ok (.imul, 1) := by decide +kernel
theorem dX8_integerAt_63 : decode cX8_integerAt 63 = .ok (.iconst 1, 1) := by decide +kernel
theorem dX8_integerAt_64 : decode cX8_integerAt 64 = .ok (.isub, 1) := by decide +kernel
theorem dX8_integerAt_65 : decode cX8_integerAt 65 = .ok (.lshl, 1) := by decide +kernel
theorem dX8_integerAt_66 : decode cX8_integerAt 66 = .ok (.lcmp, 1) := by decide +kernel
theorem dX8_integerAt_67 : decode cX8_integerAt 67 = .ok (.ifCond .lt 15, 3) := by decide +kernel
theorem dX8_integerAt_70 : decode cX8_integerAt 70 = .ok (.lload 4, 2) := by decide +kernel
theorem dX8_integerAt_72 : decode cX8_integerAt 72 = .ok (.lconst 1, 1) := by decide +kernel
theorem dX8_integerAt_73 : decode cX8_integerAt 73 = .ok (.bipush 8, 2) := by decide +kernel
theorem dX8_integerAt_75 : decode cX8_integerAt 75 = .ok (.iload_n 3, 1) := by decide +kernel
theorem dX8_integerAt_76 : decode cX8_integerAt 76 = .ok (.imul, 1) := by decide +kernel
theorem dX8_integerAt_77 : decode cX8_integerAt 77 = .ok (.lshl, 1) := by decide +kernel
theorem dX8_integerAt_78 : decode cX8_integerAt 78 = .ok (.lsub, 1) := by decide +kernel
theorem dX8_integerAt_79 : decode cX8_integerAt 79 = .ok (.goto 5, 3) := by decide +kernel
theorem dX8_integerAt_82 : decode cX8_integerAt 82 = .ok (.lload 4, 2) := by decide +kernel
theorem dX8_integerAt_84 : decode cX8_integerAt 84 = .ok (.lreturn, 1) := by decide +kernel
theorem dX8_refer_0 : decode cX8_refer 0 = .ok (.iload_n 2, 1) := by decide +kernel
theorem dX8_refer_1 : decode cX8_refer 1 = .ok (.ifCond .le 16, 3) := by decide +kernel
theorem dX8_refer_4 : decode cX8_refer 4 = .ok (.aload_n 0, 1) := by decide +kernel
theorem dX8_refer_5 : decode cX8_refer 5 = .ok (.getfield 8, 3) := by decide +kernel
theorem dX8_refer_8 : decode cX8_refer 8 = .ok (.iload_n 1, 1) := by decide +kernel
theorem dX8_refer_9 : decode cX8_refer 9 = .ok (.baload, 1) := by decide +kernel
theorem dX8_refer_10 : decode cX8_refer 10 = .ok (.sipush 255, 3) := by decide +kernel
theorem dX8_refer_13 : decode cX8_refer 13 = .ok (.iand, 1) := by decide +kernel
theorem dX8_refer_14 : decode cX8_refer 14 = .ok (.goto 4, 3) := by decide +kernel
theorem dX8_refer_17 : decode cX8_refer 17 = .ok (.iconst 0, 1) := by decide +kernel
theorem dX8_refer_18 : decode cX8_refer 18 = .ok (.istore 4, 2) := by decide +kernel
theorem dX8_refer_20 : decode cX8_refer 20 = .ok (.iload_n 2, 1) := by decide +kernel
theorem dX8_refer_21 : decode cX8_refer 21 = .ok (.ifCond .le 27, 3) := by decide +kernel
theorem dX8_refer_24 : decode cX8_refer 24 = .ok (.iload 4, 2) := by decide +kernel
theorem dX8_refer_26 : decode cX8_refer 26 = .ok (.invokestatic 77, 3) := by decide +kernel
theorem dX8_refer_29 : decode cX8_refer 29 = .ok (.iconst 2, 1) := by decide +kernel
theorem dX8_refer_30 : decode cX8_refer 30 = .ok (.if_icmp .ne 18, 3) := by decide +kernel
theorem dX8_refer_33 : decode cX8_refer 33 = .ok (.iload_n 2, 1) := by decide +kernel
theorem dX8_refer_34 : decode cX8_refer 34 = .ok (.iconst 1, 1) := by decide +kernel
theorem dX8_refer_35 : decode cX8_refer 35 = .ok (.iload 4, 2) := by decide +kernel
theorem dX8_refer_37 : decode cX8_refer 37 = .ok (.invokestatic 81, 3) := by decide +kernel
theorem dX8_refer_40 : decode cX8_refer 40 = .ok (.iadd, 1) := by decide +kernel
theorem dX8_refer_41 : decode cX8_refer 41 = .ok (.if_icmp .ne 7, 3) := by decide +kernel
theorem dX8_refer_44 : decode cX8_refer 44 = .ok (.iconst 1, 1) := by decide +kernel
theorem dX8_refer_45 : decode cX8_refer 45 = .ok (.goto 4, 3) := by decide +kernel
theorem dX8_refer_48 : decode cX8_refer 48 = .ok (.iconst 0, 1) := by decide +kernel
theorem dX8_refer_49 : decode cX8_refer 49 = .ok (.istore 5, 2) := by decide +kernel
theorem dX8_refer_51 : decode cX8_refer 51 = .ok (.iload 5, 2) := by decide +kernel
theorem dX8_refer_53 : decode cX8_refer 53 = .ok (.ifCond .eq 13, 3) := by decide +kernel
theorem dX8_refer_56 : decode cX8_refer 56 = .ok (.aload_n 0, 1) := by decide +kernel
theorem dX8_refer_57 : decode cX8_refer 57 = .ok (.iload 4, 2) := by decide +kernel
theorem dX8_refer_59 : decode cX8_refer 59 = .ok (.iload_n 1, 1) := by decide +kernel
theorem dX8_refer_60 : decode cX8_refer 60 = .ok (.invokevirtual 178, 3) := by decide +kernel
theorem dX8_refer_63 : decode cX8_refer 63 = .ok (.goto 6, 3) := by decide +kernel
theorem dX8_refer_66 : decode cX8_refer 66 = .ok (.ldc2_w 181, 3) := by decide +kernel
theorem dX8_refer_69 : decode cX8_refer 69 = .ok (.lstore 6, 2) := by decide +kernel
theorem dX8_refer_71 : decode cX8_refer 71 = .ok (.lload 6, 2) := by decide +kernel
theorem dX8_refer_73 : decode cX8_refer 73 = .ok (.lconst 0, 1) := by decide +kernel
theorem dX8_refer_74 : decode cX8_refer 74 = .ok (.lcmp, 1) := by decide +kernel
theorem dX8_refer_75 : decode cX8_refer 75 = .ok (.ifCond .lt 14, 3) := by decide +kernel
theorem dX8_refer_78 : decode cX8_refer 78 = .ok (.lload 6, 2) := by decide +kernel
theorem dX8_refer_80 : decode cX8_refer 80 = .ok (.aload_n 0, 1) := by decide +kernel
theorem dX8_refer_81 : decode cX8_refer 81 = .ok (.getfield 183, 3) := by decide +kernel
theorem dX8_refer_84 : decode cX8_refer 84 = .ok (.i2l, 1) := by decide +kernel
theorem dX8_refer_85 : decode cX8_refer 85 = .ok (.lcmp, 1) := by decide +kernel
theorem dX8_refer_86 : decode cX8_refer 86 = .ok (.ifCond .lt 10, 3) := by decide +kernel
theorem dX8_refer_89 : decode cX8_refer 89 = .ok (.aload_n 0, 1) := by decide +kernel
theorem dX8_refer_90 : decode cX8_refer 90 = .ok (.iconst 5, 1) := by decide +kernel
theorem dX8_refer_91 : decode cX8_refer 91 = .ok (.iload_n 3, 1) := by decide +kernel
theorem dX8_refer_92 : decode cX8_refer 92 = .ok (.invokevirtual 147, 3) := by decide +kernel
theorem dX8_refer_95 : decode cX8_refer 95 = .ok (.ireturn, 1) := by decide +kernel
theorem dX8_refer_96 : decode cX8_refer 96 = .ok (.aload_n 0, 1) := by decide +kernel
theorem dX8_refer_97 : decode cX8_refer 97 = .ok (.aload_n 0, 1) := by decide +kernel
theorem dX8_refer_98 : decode cX8_refer 98 = .ok (.getfield 68, 3) := by decide +kernel
theorem dX8_refer_101 : decode cX8_refer 101 = .ok (.lload 6, 2) := by decide +kernel
theorem dX8_refer_103 : decode cX8_refer 103 = .ok (.l2i, 1) := by decide +kernel
theorem dX8_refer_104 : decode cX8_refer 104 = .ok (.iaload, 1) := by decide +kernel
theorem dX8_refer_105 : decode cX8_refer 105 = .ok (.putfield 169, 3) := by decide +kernel
theorem dX8_refer_108 : decode cX8_refer 108 = .ok (.iconst 1, 1) := by decide +kernel
theorem dX8_refer_109 : decode cX8_refer 109 = .ok (.ireturn, 1) := by decide +kernel
theorem dX8_readGroup_0 : decode cX8_readGroup 0 = .ok (.aload_n 0, 1) := by decide +kernel
theorem dX8_readGroup_1 : decode cX8_readGroup 1 = .ok (.getfield 186, 3) := by decide +kernel
theorem dX8_readGroup_4 : decode cX8_readGroup 4 = .ok (.bipush 24, 2) := by decide +kernel
theorem dX8_readGroup_6 : decode cX8_readGroup 6 = .ok (.if_icmp .ne 12, 3) := by decide +kernel
theorem dX8_readGroup_9 : decode cX8_readGroup 9 = .ok (.aload_n 0, 1) := by decide +kernel
theorem dX8_readGroup_10 : decode cX8_readGroup 10 = .ok (.bipush 6, 2) := by decide +kernel
theorem dX8_readGroup_12 : decode cX8_readGroup 12 = .ok (.iload 4, 2) := by decide +kernel
theorem dX8_readGroup_14 : decode cX8_readGroup 14 = .ok (.invokevirtual 147, 3) := by decide +kernel
theorem dX8_readGroup_17 : decode cX8_readGroup 17 = .ok (.ireturn, 1) := by decide +kernel
theorem dX8_readGroup_18 : decode cX8_readGroup 18 = .ok (.iload_n 1, 1) := by decide +kernel
theorem dX8_readGroup_19 : decode cX8_readGroup 19 = .ok (.bipush 8, 2) := by decide +kernel
theorem dX8_readGroup_21 : decode cX8_readGroup 21 = .ok (.if_icmp .ne 11, 3) := by decide +kernel
theorem dX8_readGroup_24 : decode cX8_readGroup 24 = .ok (.ldc2_w 98, 3) := by decide +kernel
theorem dX8_readGroup_27 : decode cX8_readGroup 27 = .ok (.lload_n 2, 1) := by decide +kernel
theorem dX8_readGroup_28 : decode cX8_readGroup 28 = .ok (.lmul, 1) := by decide +kernel
theorem dX8_readGroup_29 : decode cX8_readGroup 29 = .ok (.goto 4, 3) := by decide +kernel
theorem dX8_readGroup_32 : decode cX8_readGroup 32 = .ok (.lload_n 2, 1) := by decide +kernel
theorem dX8_readGroup_33 : decode cX8_readGroup 33 = .ok (.lstore 5, 2) := by decide +kernel
theorem dX8_readGroup_35 : decode cX8_readGroup 35 = .ok (.aload_n 0, 1) := by decide +kernel
theorem dX8_readGroup_36 : decode cX8_readGroup 36 = .ok (.getfield 107, 3) := by decide +kernel
theorem dX8_readGroup_39 : decode cX8_readGroup 39 = .ok (.sipush 3000, 3) := by decide +kernel
theorem dX8_readGroup_42 : decode cX8_readGroup 42 = .ok (.if_icmp .eq 17, 3) := by decide +kernel
theorem dX8_readGroup_45 : decode cX8_readGroup 45 = .ok (.aload_n 0, 1) := by decide +kernel
theorem dX8_readGroup_46 : decode cX8_readGroup 46 = .ok (.getfield 189, 3) := by decide +kernel
theorem dX8_readGroup_49 : decode cX8_readGroup 49 = .ok (.lload 5, 2) := by decide +kernel
theorem dX8_readGroup_51 : decode cX8_readGroup 51 = .ok (.ladd, 1) := by decide +kernel
theorem dX8_readGroup_52 : decode cX8_readGroup 52 = .ok (.ldc2_w 193, 3) := by decide +kernel
theorem dX8_readGroup_55 : decode cX8_readGroup 55 = .ok (.lcmp, 1) := by decide +kernel
theorem dX8_readGroup_56 : decode cX8_readGroup 56 = .ok (.ifCond .le 12, 3) := by decide +kernel
theorem dX8_readGroup_59 : decode cX8_readGroup 59 = .ok (.aload_n 0, 1) := by decide +kernel
theorem dX8_readGroup_60 : decode cX8_readGroup 60 = .ok (.bipush 7, 2) := by decide +kernel
theorem dX8_readGroup_62 : decode cX8_readGroup 62 = .ok (.iload 4, 2) := by decide +kernel
theorem dX8_readGroup_64 : decode cX8_readGroup 64 = .ok (.invokevirtual 147, 3) := by decide +kernel
theorem dX8_readGroup_67 : decode cX8_readGroup 67 = .ok (.ireturn, 1) := by decide +kernel
theorem dX8_readGroup_68 : decode cX8_readGroup 68 = .ok (.aload_n 0, 1) := by decide +kernel
theorem dX8_readGroup_69 : decode cX8_readGroup 69 = .ok (.aload_n 0, 1) := by decide +kernel
theorem dX8_readGroup_70 : decode cX8_readGroup 70 = .ok (.getfield 189, 3) := by decide +kernel
theorem dX8_readGroup_73 : decode cX8_readGroup 73 = .ok (.lload 5, 2) := by decide +kernel
theorem dX8_readGroup_75 : decode cX8_readGroup 75 = .ok (.ladd, 1) := by decide +kernel
theorem dX8_readGroup_76 : decode cX8_readGroup 76 = .ok (.putfield 189, 3) := by decide +kernel
theorem dX8_readGroup_79 : decode cX8_readGroup 79 = .ok (.aload_n 0, 1) := by decide +kernel
theorem dX8_readGroup_80 : decode cX8_readGroup 80 = .ok (.aload_n 0, 1) := by decide +kernel
theorem dX8_readGroup_81 : decode cX8_readGroup 81 = .ok (.iload_n 1, 1) := by decide +kernel
theorem dX8_readGroup_82 : decode cX8_readGroup 82 = .ok (.lconst 0, 1) := by decide +kernel
theorem dX8_readGroup_83 : decode cX8_readGroup 83 = .ok (.invokevirtual 110, 3) := by decide +kernel
theorem dX8_readGroup_86 : decode cX8_readGroup 86 = .ok (.putfield 169, 3) := by decide +kernel
theorem dX8_readGroup_89 : decode cX8_readGroup 89 = .ok (.aload_n 0, 1) := by decide +kernel
theorem dX8_readGroup_90 : decode cX8_readGroup 90 = .ok (.getfield 38, 3) := by decide +kernel
theorem dX8_readGroup_93 : decode cX8_readGroup 93 = .ok (.aload_n 0, 1) := by decide +kernel
theorem dX8_readGroup_94 : decode cX8_readGroup 94 = .ok (.getfield 169, 3) := by decide +kernel
theorem dX8_readGroup_97 : decode cX8_readGroup 97 = .ok (.lload_n 2, 1) := by decide +kernel
theorem dX8_readGroup_98 : decode cX8_readGroup 98 = .ok (.l2i, 1) := by decide +kernel
theorem dX8_readGroup_99 : decode cX8_readGroup 99 = .ok (.iastore, 1) := by decide +kernel
theorem dX8_readGroup_100 : decode cX8_readGroup 100 = .ok (.aload_n 0, 1) := by decide +kernel
theorem dX8_readGroup_101 : decode cX8_readGroup 101 = .ok (.getfield 68, 3) := by decide +kernel
theorem dX8_readGroup_104 : decode cX8_readGroup 104 = .ok (.aload_n 0, 1) := by decide +kernel
theorem dX8_readGroup_105 : decode cX8_readGroup 105 = .ok (.getfield 183, 3) := by decide +kernel
theorem dX8_readGroup_108 : decode cX8_readGroup 108 = .ok (.aload_n 0, 1) := by decide +kernel
theorem dX8_readGroup_109 : decode cX8_readGroup 109 = .ok (.getfield 169, 3) := by decide +kernel
theorem dX8_readGroup_112 : decode cX8_readGroup 112 = .ok (.iastore, 1) := by decide +kernel
theorem dX8_readGroup_113 : decode cX8_readGroup 113 = .ok (.aload_n 0, 1) := by decide +kernel
theorem dX8_readGroup_114 : decode cX8_readGroup 114 = .ok (.dup, 1) := by decide +kernel
theorem dX8_readGroup_115 : decode cX8_readGroup 115 = .ok (.getfield 183, 3) := by decide +kernel
theorem dX8_readGroup_118 : decode cX8_readGroup 118 = .ok (.iconst 1, 1) := by decide +kernel
theorem dX8_readGroup_119 : decode cX8_readGroup 119 = .ok (.iadd, 1) := by decide +kernel
theorem dX8_readGroup_120 : decode cX8_readGroup 120 = .ok (.putfield 183, 3) := by decide +kernel
theorem dX8_readGroup_123 : decode cX8_readGroup 123 = .ok (.aload_n 0, 1) := by decide +kernel
theorem dX8_readGroup_124 : decode cX8_readGroup 124 = .ok (.getfield 62, 3) := by decide +kernel
theorem dX8_readGroup_127 : decode cX8_readGroup 127 = .ok (.aload_n 0, 1) := by decide +kernel
theorem dX8_readGroup_128 : decode cX8_readGroup 128 = .ok (.getfield 186, 3) := by decide +kernel
theorem dX8_readGroup_131 : decode cX8_readGroup 131 = .ok (.aload_n 0, 1) := by decide +kernel
theorem dX8_readGroup_132 : decode cX8_readGroup 132 = .ok (.getfield 169, 3) := by decide +kernel
theorem dX8_readGroup_135 : decode cX8_readGroup 135 = .ok (.iastore, 1) := by decide +kernel
theorem dX8_readGroup_136 : decode cX8_readGroup 136 = .ok (.aload_n 0, 1) := by decide +kernel
theorem dX8_readGroup_137 : decode cX8_readGroup 137 = .ok (.getfield 65, 3) := by decide +kernel
theorem dX8_readGroup_140 : decode cX8_readGroup 140 = .ok (.aload_n 0, 1) := by decide +kernel
theorem dX8_readGroup_141 : decode cX8_readGroup 141 = .ok (.getfield 186, 3) := by decide +kernel
theorem dX8_readGroup_144 : decode cX8_readGroup 144 = .ok (.lload 5, 2) := by decide +kernel
theorem dX8_readGroup_146 : decode cX8_readGroup 146 = .ok (.lastore, 1) := by decide +kernel
theorem dX8_readGroup_147 : decode cX8_readGroup 147 = .ok (.aload_n 0, 1) := by decide +kernel
theorem dX8_readGroup_148 : decode cX8_readGroup 148 = .ok (.dup, 1) := by decide +kernel
theorem dX8_readGroup_149 : decode cX8_readGroup 149 = .ok (.getfield 186, 3) := by decide +kernel
theorem dX8_readGroup_152 : decode cX8_readGroup 152 = .ok (.iconst 1, 1) := by decide +kernel
theorem dX8_readGroup_153 : decode cX8_readGroup 153 = .ok (.iadd, 1) := by decide +kernel
theorem dX8_readGroup_154 : decode cX8_readGroup 154 = .ok (.putfield 186, 3) := by decide +kernel
theorem dX8_readGroup_157 : decode cX8_readGroup 157 = .ok (.aload_n 0, 1) := by decide +kernel
theorem dX8_readGroup_158 : decode cX8_readGroup 158 = .ok (.iload 4, 2) := by decide +kernel
theorem dX8_readGroup_160 : decode cX8_readGroup 160 = .ok (.aload_n 0, 1) := by decide +kernel
theorem dX8_readGroup_161 : decode cX8_readGroup 161 = .ok (.getfield 8, 3) := by decide +kernel
theorem dX8_readGroup_164 : decode cX8_readGroup 164 = .ok (.iload 4, 2) := by decide +kernel
theorem dX8_readGroup_166 : decode cX8_readGroup 166 = .ok (.baload, 1) := by decide +kernel
theorem dX8_readGroup_167 : decode cX8_readGroup 167 = .ok (.sipush 255, 3) := by decide +kernel
theorem dX8_readGroup_170 : decode cX8_readGroup 170 = .ok (.iand, 1) := by decide +kernel
theorem dX8_readGroup_171 : decode cX8_readGroup 171 = .ok (.invokestatic 91, 3) := by decide +kernel
theorem dX8_readGroup_174 : decode cX8_readGroup 174 = .ok (.iadd, 1) := by decide +kernel
theorem dX8_readGroup_175 : decode cX8_readGroup 175 = .ok (.putfield 144, 3) := by decide +kernel
theorem dX8_readGroup_178 : decode cX8_readGroup 178 = .ok (.iconst 1, 1) := by decide +kernel
theorem dX8_readGroup_179 : decode cX8_readGroup 179 = .ok (.ireturn, 1) := by decide +kernel
theorem dX8_readAll_0 : decode cX8_readAll 0 = .ok (.aload_n 0, 1) := by decide +kernel
theorem dX8_readAll_1 : decode cX8_readAll 1 = .ok (.iconst 0, 1) := by decide +kernel
theorem dX8_readAll_2 : decode cX8_readAll 2 = .ok (.putfield 186, 3) := by decide +kernel
theorem dX8_readAll_5 : decode cX8_readAll 5 = .ok (.aload_n 0, 1) := by decide +kernel
theorem dX8_readAll_6 : decode cX8_readAll 6 = .ok (.iconst 0, 1) := by decide +kernel
theorem dX8_readAll_7 : decode cX8_readAll 7 = .ok (.putfield 144, 3) := by decide +kernel
theorem dX8_readAll_10 : decode cX8_readAll 10 = .ok (.aload_n 0, 1) := by decide +kernel
theorem dX8_readAll_11 : decode cX8_readAll 11 = .ok (.iconst 0, 1) := by decide +kernel
theorem dX8_readAll_12 : decode cX8_readAll 12 = .ok (.putfield 183, 3) := by decide +kernel
theorem dX8_readAll_15 : decode cX8_readAll 15 = .ok (.aload_n 0, 1) := by decide +kernel
theorem dX8_readAll_16 : decode cX8_readAll 16 = .ok (.aload_n 0, 1) := by decide +kernel
theorem dX8_readAll_17 : decode cX8_readAll 17 = .ok (.getfield 117, 3) := by decide +kernel
theorem dX8_readAll_20 : decode cX8_readAll 20 = .ok (.i2l, 1) := by decide +kernel
theorem dX8_readAll_21 : decode cX8_readAll 21 = .ok (.putfield 189, 3) := by decide +kernel
theorem dX8_readAll_24 : decode cX8_readAll 24 = .ok (.iconst 1, 1) := by decide +kernel
theorem dX8_readAll_25 : decode cX8_readAll 25 = .ok (.istore_n 1, 1) := by decide +kernel
theorem dX8_readAll_26 : decode cX8_readAll 26 = .ok (.iload_n 1, 1) := by decide +kernel
theorem dX8_readAll_27 : decode cX8_readAll 27 = .ok (.ifCond .eq 117, 3) := by decide +kernel
theorem dX8_readAll_30 : decode cX8_readAll 30 = .ok (.aload_n 0, 1) := by decide +kernel
theorem dX8_readAll_31 : decode cX8_readAll 31 = .ok (.getfield 186, 3) := by decide +kernel
theorem dX8_readAll_34 : decode cX8_readAll 34 = .ok (.istore_n 2, 1) := by decide +kernel
theorem dX8_readAll_35 : decode cX8_readAll 35 = .ok (.aload_n 0, 1) := by decide +kernel
theorem dX8_readAll_36 : decode cX8_readAll 36 = .ok (.getfield 186, 3) := by decide +kernel
theorem dX8_readAll_39 : decode cX8_readAll 39 = .ok (.ifCond .le 17, 3) := by decide +kernel
theorem dX8_readAll_42 : decode cX8_readAll 42 = .ok (.aload_n 0, 1) := by decide +kernel
theorem dX8_readAll_43 : decode cX8_readAll 43 = .ok (.getfield 62, 3) := by decide +kernel
theorem dX8_readAll_46 : decode cX8_readAll 46 = .ok (.aload_n 0, 1) := by decide +kernel
theorem dX8_readAll_47 : decode cX8_readAll 47 = .ok (.getfield 186, 3) := by decide +kernel
theorem dX8_readAll_50 : decode cX8_readAll 50 = .ok (.iconst 1, 1) := by decide +kernel
theorem dX8_readAll_51 : decode cX8_readAll 51 = .ok (.isub, 1) := by decide +kernel
theorem dX8_readAll_52 : decode cX8_readAll 52 = .ok (.iaload, 1) := by decide +kernel
theorem dX8_readAll_53 : decode cX8_readAll 53 = .ok (.goto 4, 3) := by decide +kernel
theorem dX8_readAll_56 : decode cX8_readAll 56 = .ok (.iconst (-1), 1) := by decide +kernel
theorem dX8_readAll_57 : decode cX8_readAll 57 = .ok (.istore_n 3, 1) := by decide +kernel
theorem dX8_readAll_58 : decode cX8_readAll 58 = .ok (.aload_n 0, 1) := by decide +kernel
theorem dX8_readAll_59 : decode cX8_readAll 59 = .ok (.invokevirtual 195, 3) := by decide +kernel
theorem dX8_readAll_62 : decode cX8_readAll 62 = .ok (.ifCond .ne 5, 3) := by decide +kernel
theorem dX8_readAll_65 : decode cX8_readAll 65 = .ok (.iconst 0, 1) := by decide +kernel
theorem dX8_readAll_66 : decode cX8_readAll 66 = .ok (.ireturn, 1) := by decide +kernel
theorem dX8_readAll_67 : decode cX8_readAll 67 = .ok (.iload_n 3, 1) := by decide +kernel
theorem dX8_readAll_68 : decode cX8_readAll 68 = .ok (.ifCond .lt 24, 3) := by decide +kernel
theorem dX8_readAll_71 : decode cX8_readAll 71 = .ok (.aload_n 0, 1) := by decide +kernel
theorem dX8_readAll_72 : decode cX8_readAll 72 = .ok (.iload_n 3, 1) := by decide +kernel
theorem dX8_readAll_73 : decode cX8_readAll 73 = .ok (.aload_n 0, 1) := by decide +kernel
theorem dX8_readAll_74 : decode cX8_readAll 74 = .ok (.getfield 169, 3) := by decide +kernel
theorem dX8_readAll_77 : decode cX8_readAll 77 = .ok (.invokevirtual 134, 3) := by decide +kernel
theorem dX8_readAll_80 : decode cX8_readAll 80 = .ok (.aload_n 0, 1) := by decide +kernel
theorem dX8_readAll_81 : decode cX8_readAll 81 = .ok (.getfield 65, 3) := by decide +kernel
theorem dX8_readAll_84 : decode cX8_readAll 84 = .ok (.iload_n 2, 1) := by decide +kernel
theorem dX8_readAll_85 : decode cX8_readAll 85 = .ok (.iconst 1, 1) := by decide +kernel
theorem dX8_readAll_86 : decode cX8_readAll 86 = .ok (.isub, 1) := by decide +kernel
theorem dX8_readAll_87 : decode cX8_readAll 87 = .ok (.dup2, 1) := by decide +kernel
theorem dX8_readAll_88 : decode cX8_readAll 88 = .ok (.laload, 1) := by decide +kernel
theorem dX8_readAll_89 : decode cX8_readAll 89 = .ok (.lconst 1, 1) := by decide +kernel
theorem dX8_readAll_90 : decode cX8_readAll 90 = .ok (.lsub, 1) := by decide +kernel
theorem dX8_readAll_91 : decode cX8_readAll 91 = .ok (.lastore, 1) := by decide +kernel
theorem dX8_readAll_92 : decode cX8_readAll 92 = .ok (.aload_n 0, 1) := by decide +kernel
theorem dX8_readAll_93 : decode cX8_readAll 93 = .ok (.getfield 186, 3) := by decide +kernel
theorem dX8_readAll_96 : decode cX8_readAll 96 = .ok (.ifCond .le 32, 3) := by decide +kernel
theorem dX8_readAll_99 : decode cX8_readAll 99 = .ok (.aload_n 0, 1) := by decide +kernel
theorem dX8_readAll_100 : decode cX8_readAll 100 = .ok (.getfield 65, 3) := by decide +kernel
theorem dX8_readAll_103 : decode cX8_readAll 103 = .ok (.aload_n 0, 1) := by decide +kernel
theorem dX8_readAll_104 : decode cX8_readAll 104 = .ok (.getfield 186, 3) := by decide +kernel
theorem dX8_readAll_107 : decode cX8_readAll 107 = .ok (.iconst 1, 1) := by decide +kernel
theorem dX8_readAll_108 : decode cX8_readAll 108 = .ok (.isub, 1) := by decide +kernel
theorem dX8_readAll_109 : decode cX8_readAll 109 = .ok (.laload, 1) := by decide +kernel
theorem dX8_readAll_110 : decode cX8_readAll 110 = .ok (.lconst 0, 1) := by decide +kernel
theorem dX8_readAll_111 : decode cX8_readAll 111 = .ok (.lcmp, 1) := by decide +kernel
theorem dX8_readAll_112 : decode cX8_readAll 112 = .ok (.ifCond .ne 16, 3) := by decide +kernel
theorem dX8_readAll_115 : decode cX8_readAll 115 = .ok (.aload_n 0, 1) := by decide +kernel
theorem dX8_readAll_116 : decode cX8_readAll 116 = .ok (.dup, 1) := by decide +kernel
theorem dX8_readAll_117 : decode cX8_readAll 117 = .ok (.getfield 186, 3) := by decide +kernel
theorem dX8_readAll_120 : decode cX8_readAll 120 = .ok (.iconst 1, 1) := by decide +kernel
theorem dX8_readAll_121 : decode cX8_readAll 121 = .ok (.isub, 1) := by decide +kernel
theorem dX8_readAll_122 : decode cX8_readAll 122 = .ok (.putfield 186, 3) := by decide +kernel
theorem dX8_readAll_125 : decode cX8_readAll 125 = .ok (.goto (-33), 3) := by decide +kernel
theorem dX8_readAll_128 : decode cX8_readAll 128 = .ok (.aload_n 0, 1) := by decide +kernel
theorem dX8_readAll_129 : decode cX8_readAll 129 = .ok (.getfield 186, 3) := by decide +kernel
theorem dX8_readAll_132 : decode cX8_readAll 132 = .ok (.ifCond .le 7, 3) := by decide +kernel
theorem dX8_readAll_135 : decode cX8_readAll 135 = .ok (.iconst 1, 1) := by decide +kernel
theorem dX8_readAll_136 : decode cX8_readAll 136 = .ok (.goto 4, 3) := by decide +kernel
theorem dX8_readAll_139 : decode cX8_readAll 139 = .ok (.iconst 0, 1) := by decide +kernel
theorem dX8_readAll_140 : decode cX8_readAll 140 = .ok (.istore_n 1, 1) := by decide +kernel
theorem dX8_readAll_141 : decode cX8_readAll 141 = .ok (.goto (-115), 3) := by decide +kernel
theorem dX8_readAll_144 : decode cX8_readAll 144 = .ok (.aload_n 0, 1) := by decide +kernel
theorem dX8_readAll_145 : decode cX8_readAll 145 = .ok (.getfield 144, 3) := by decide +kernel
theorem dX8_readAll_148 : decode cX8_readAll 148 = .ok (.aload_n 0, 1) := by decide +kernel
theorem dX8_readAll_149 : decode cX8_readAll 149 = .ok (.getfield 88, 3) := by decide +kernel
theorem dX8_readAll_152 : decode cX8_readAll 152 = .ok (.if_icmp .eq 16, 3) := by decide +kernel
theorem dX8_readAll_155 : decode cX8_readAll 155 = .ok (.aload_n 0, 1) := by decide +kernel
theorem dX8_readAll_156 : decode cX8_readAll 156 = .ok (.bipush 8, 2) := by decide +kernel
theorem dX8_readAll_158 : decode cX8_readAll 158 = .ok (.aload_n 0, 1) := by decide +kernel
theorem dX8_readAll_159 : decode cX8_readAll 159 = .ok (.getfield 144, 3) := by decide +kernel
theorem dX8_readAll_162 : decode cX8_readAll 162 = .ok (.invokevirtual 147, 3) := by decide +kernel
theorem dX8_readAll_165 : decode cX8_readAll 165 = .ok (.ifCond .eq 7, 3) := by decide +kernel
theorem dX8_readAll_168 : decode cX8_readAll 168 = .ok (.iconst 1, 1) := by decide +kernel
theorem dX8_readAll_169 : decode cX8_readAll 169 = .ok (.goto 4, 3) := by decide +kernel
theorem dX8_readAll_172 : decode cX8_readAll 172 = .ok (.iconst 0, 1) := by decide +kernel
theorem dX8_readAll_173 : decode cX8_readAll 173 = .ok (.ireturn, 1) := by decide +kernel
theorem dX8_unpack_0 : decode cX8_unpack 0 = .ok (.aload_n 0, 1) := by decide +kernel
theorem dX8_unpack_1 : decode cX8_unpack 1 = .ok (.iconst 0, 1) := by decide +kernel
theorem dX8_unpack_2 : decode cX8_unpack 2 = .ok (.putfield 71, 3) := by decide +kernel
theorem dX8_unpack_5 : decode cX8_unpack 5 = .ok (.aload_n 0, 1) := by decide +kernel
theorem dX8_unpack_6 : decode cX8_unpack 6 = .ok (.getfield 107, 3) := by decide +kernel
theorem dX8_unpack_9 : decode cX8_unpack 9 = .ok (.istore_n 1, 1) := by decide +kernel
theorem dX8_unpack_10 : decode cX8_unpack 10 = .ok (.aload_n 0, 1) := by decide +kernel
theorem dX8_unpack_11 : decode cX8_unpack 11 = .ok (.getfield 117, 3) := by decide +kernel
theorem dX8_unpack_14 : decode cX8_unpack 14 = .ok (.istore_n 2, 1) := by decide +kernel
theorem dX8_unpack_15 : decode cX8_unpack 15 = .ok (.aload_n 0, 1) := by decide +kernel
theorem dX8_unpack_16 : decode cX8_unpack 16 = .ok (.getfield 114, 3) := by decide +kernel
theorem dX8_unpack_19 : decode cX8_unpack 19 = .ok (.istore_n 3, 1) := by decide +kernel
theorem dX8_unpack_20 : decode cX8_unpack 20 = .ok (.aload_n 0, 1) := by decide +kernel
theorem dX8_unpack_21 : decode cX8_unpack 21 = .ok (.iconst 0, 1) := by decide +kernel
theorem dX8_unpack_22 : decode cX8_unpack 22 = .ok (.putfield 138, 3) := by decide +kernel
theorem dX8_unpack_25 : decode cX8_unpack 25 = .ok (.aload_n 0, 1) := by decide +kernel
theorem dX8_unpack_26 : decode cX8_unpack 26 = .ok (.iconst 0, 1) := by decide +kernel
theorem dX8_unpack_27 : decode cX8_unpack 27 = .ok (.putfield 141, 3) := by decide +kernel
theorem dX8_unpack_30 : decode cX8_unpack 30 = .ok (.aload_n 0, 1) := by decide +kernel
theorem dX8_unpack_31 : decode cX8_unpack 31 = .ok (.invokevirtual 199, 3) := by decide +kernel
theorem dX8_unpack_34 : decode cX8_unpack 34 = .ok (.istore 4, 2) := by decide +kernel
theorem dX8_unpack_36 : decode cX8_unpack 36 = .ok (.aload_n 0, 1) := by decide +kernel
theorem dX8_unpack_37 : decode cX8_unpack 37 = .ok (.iconst 0, 1) := by decide +kernel
theorem dX8_unpack_38 : decode cX8_unpack 38 = .ok (.putfield 88, 3) := by decide +kernel
theorem dX8_unpack_41 : decode cX8_unpack 41 = .ok (.iload 4, 2) := by decide +kernel
theorem dX8_unpack_43 : decode cX8_unpack 43 = .ok (.ifCond .ne 20, 3) := by decide +kernel
theorem dX8_unpack_46 : decode cX8_unpack 46 = .ok (.aload_n 0, 1) := by decide +kernel
theorem dX8_unpack_47 : decode cX8_unpack 47 = .ok (.iload_n 1, 1) := by decide +kernel
theorem dX8_unpack_48 : decode cX8_unpack 48 = .ok (.putfield 107, 3) := by decide +kernel
theorem dX8_unpack_51 : decode cX8_unpack 51 = .ok (.aload_n 0, 1) := by decide +kernel
theorem dX8_unpack_52 : decode cX8_unpack 52 = .ok (.iload_n 2, 1) := by decide +kernel
theorem dX8_unpack_53 : decode cX8_unpack 53 = .ok (.putfield 117, 3) := by decide +kernel
theorem dX8_unpack_56 : decode cX8_unpack 56 = .ok (.aload_n 0, 1) := by decide +kernel
theorem dX8_unpack_57 : decode cX8_unpack 57 = .ok (.iload_n 3, 1) := by decide +kernel
theorem dX8_unpack_58 : decode cX8_unpack 58 = .ok (.putfield 114, 3) := by decide +kernel
theorem dX8_unpack_61 : decode cX8_unpack 61 = .ok (.iconst (-1), 1) := by decide +kernel
theorem dX8_unpack_62 : decode cX8_unpack 62 = .ok (.ireturn, 1) := by decide +kernel
theorem dX8_unpack_63 : decode cX8_unpack 63 = .ok (.iload_n 1, 1) := by decide +kernel
theorem dX8_unpack_64 : decode cX8_unpack 64 = .ok (.ireturn, 1) := by decide +kernel
theorem dX8_fault_0 : decode cX8_fault 0 = .ok (.aload_n 0, 1) := by decide +kernel
theorem dX8_fault_1 : decode cX8_fault 1 = .ok (.iload_n 1, 1) := by decide +kernel
theorem dX8_fault_2 : decode cX8_fault 2 = .ok (.ifCond .eq 8, 3) := by decide +kernel
theorem dX8_fault_5 : decode cX8_fault 5 = .ok (.iload_n 1, 1) := by decide +kernel
theorem dX8_fault_6 : decode cX8_fault 6 = .ok (.iconst 1, 1) := by decide +kernel
theorem dX8_fault_7 : decode cX8_fault 7 = .ok (.if_icmp .ne 7, 3) := by decide +kernel
theorem dX8_fault_10 : decode cX8_fault 10 = .ok (.iconst 0, 1) := by decide +kernel
theorem dX8_fault_11 : decode cX8_fault 11 = .ok (.goto 4, 3) := by decide +kernel
theorem dX8_fault_14 : decode cX8_fault 14 = .ok (.iconst 1, 1) := by decide +kernel
theorem dX8_fault_15 : decode cX8_fault 15 = .ok (.putfield 71, 3) := by decide +kernel
theorem dX8_fault_18 : decode cX8_fault 18 = .ok (.aload_n 0, 1) := by decide +kernel
theorem dX8_fault_19 : decode cX8_fault 19 = .ok (.getfield 71, 3) := by decide +kernel
theorem dX8_fault_22 : decode cX8_fault 22 = .ok (.ifCond .le 7, 3) := by decide +kernel
theorem dX8_fault_25 : decode cX8_fault 25 = .ok (.iconst 0, 1) := by decide +kernel
theorem dX8_fault_26 : decode cX8_fault 26 = .ok (.goto 18, 3) := by decide +kernel
theorem dX8_fault_29 : decode cX8_fault 29 = .ok (.iload_n 1, 1) := by decide +kernel
theorem dX8_fault_30 : decode cX8_fault 30 = .ok (.ifCond .ne 10, 3) := by decide +kernel
theorem dX8_fault_33 : decode cX8_fault 33 = .ok (.aload_n 0, 1) := by decide +kernel
theorem dX8_fault_34 : decode cX8_fault 34 = .ok (.getfield 138, 3) := by decide +kernel
theorem dX8_fault_37 : decode cX8_fault 37 = .ok (.goto 7, 3) := by decide +kernel
theorem dX8_fault_40 : decode cX8_fault 40 = .ok (.aload_n 0, 1) := by decide +kernel
theorem dX8_fault_41 : decode cX8_fault 41 = .ok (.getfield 141, 3) := by decide +kernel
theorem dX8_fault_44 : decode cX8_fault 44 = .ok (.ireturn, 1) := by decide +kernel
theorem dX8_byteTo_0 : decode cX8_byteTo 0 = .ok (.aload_n 0, 1) := by decide +kernel
theorem dX8_byteTo_1 : decode cX8_byteTo 1 = .ok (.getfield 202, 3) := by decide +kernel
theorem dX8_byteTo_4 : decode cX8_byteTo 4 = .ok (.ldc 7, 2) := by decide +kernel
theorem dX8_byteTo_6 : decode cX8_byteTo 6 = .ok (.if_icmp .ne 11, 3) := by decide +kernel
theorem dX8_byteTo_9 : decode cX8_byteTo 9 = .ok (.aload_n 0, 1) := by decide +kernel
theorem dX8_byteTo_10 : decode cX8_byteTo 10 = .ok (.iconst 1, 1) := by decide +kernel
theorem dX8_byteTo_11 : decode cX8_byteTo 11 = .ok (.putfield 205, 3) := by decide +kernel
theorem dX8_byteTo_14 : decode cX8_byteTo 14 = .ok (.goto 21, 3) := by decide +kernel
theorem dX8_byteTo_17 : decode cX8_byteTo 17 = .ok (.aload_n 1, 1) := by decide +kernel
theorem dX8_byteTo_18 : decode cX8_byteTo 18 = .ok (.aload_n 0, 1) := by decide +kernel
theorem dX8_byteTo_19 : decode cX8_byteTo 19 = .ok (.getfield 202, 3) := by decide +kernel
theorem dX8_byteTo_22 : decode cX8_byteTo 22 = .ok (.iload_n 2, 1) := by decide +kernel
theorem dX8_byteTo_23 : decode cX8_byteTo 23 = .ok (.i2b, 1) := by decide +kernel
theorem dX8_byteTo_24 : decode cX8_byteTo 24 = .ok (.bastore, 1) := by decide +kernel
theorem dX8_byteTo_25 : decode cX8_byteTo 25 = .ok (.aload_n 0, 1) := by decide +kernel
theorem dX8_byteTo_26 : decode cX8_byteTo 26 = .ok (.dup, 1) := by decide +kernel
theorem dX8_byteTo_27 : decode cX8_byteTo 27 = .ok (.getfield 202, 3) := by decide +kernel
theorem dX8_byteTo_30 : decode cX8_byteTo 30 = .ok (.iconst 1, 1) := by decide +kernel
theorem dX8_byteTo_31 : decode cX8_byteTo 31 = .ok (.iadd, 1) := by decide +kernel
theorem dX8_byteTo_32 : decode cX8_byteTo 32 = .ok (.putfield 202, 3) := by decide +kernel
theorem dX8_byteTo_35 : decode cX8_byteTo 35 = .ok (.return_, 1) := by decide +kernel
theorem dX8_numberTo_0 : decode cX8_numberTo 0 = .ok (.iload 4, 2) := by decide +kernel
theorem dX8_numberTo_2 : decode cX8_numberTo 2 = .ok (.iconst 1, 1) := by decide +kernel
theorem dX8_numberTo_3 : decode cX8_numberTo 3 = .ok (.isub, 1) := by decide +kernel
theorem dX8_numberTo_4 : decode cX8_numberTo 4 = .ok (.istore 5, 2) := by decide +kernel
theorem dX8_numberTo_6 : decode cX8_numberTo 6 = .ok (.iload 5, 2) := by decide +kernel
theorem dX8_numberTo_8 : decode cX8_numberTo 8 = .ok (.ifCond .lt 22, 3) := by decide +kernel
theorem dX8_numberTo_11 : decode cX8_numberTo 11 = .ok (.aload_n 0, 1) := by decide +kernel
theorem dX8_numberTo_12 : decode cX8_numberTo 12 = .ok (.aload_n 1, 1) := by decide +kernel
theorem dX8_numberTo_13 : decode cX8_numberTo 13 = .ok (.lload_n 2, 1) := by decide +kernel
theorem dX8_numberTo_14 : decode cX8_numberTo 14 = .ok (.bipush 8, 2) := by decide +kernel
theorem dX8_numberTo_16 : decode cX8_numberTo 16 = .ok (.iload 5, 2) := by decide +kernel
theorem dX8_numberTo_18 : decode cX8_numberTo 18 = .ok (.imul, 1) := by decide +kernel
theorem dX8_numberTo_19 : decode cX8_numberTo 19 = .ok (.lshr, 1) := by decide +kernel
theorem dX8_numberTo_20 : decode cX8_numberTo 20 = .ok (.l2i, 1) := by decide +kernel
theorem dX8_numberTo_21 : decode cX8_numberTo 21 = .ok (.invokevirtual 209, 3) := by decide +kernel
theorem dX8_numberTo_24 : decode cX8_numberTo 24 = .ok (.iinc 5 (-1), 3) := by decide +kernel
theorem dX8_numberTo_27 : decode cX8_numberTo 27 = .ok (.goto (-21), 3) := by decide +kernel
theorem dX8_numberTo_30 : decode cX8_numberTo 30 = .ok (.return_, 1) := by decide +kernel
theorem dX8_countTo_0 : decode cX8_countTo 0 = .ok (.iload_n 2, 1) := by decide +kernel
theorem dX8_countTo_1 : decode cX8_countTo 1 = .ok (.iload_n 3, 1) := by decide +kernel
theorem dX8_countTo_2 : decode cX8_countTo 2 = .ok (.if_icmp .ge 15, 3) := by decide +kernel
theorem dX8_countTo_5 : decode cX8_countTo 5 = .ok (.aload_n 0, 1) := by decide +kernel
theorem dX8_countTo_6 : decode cX8_countTo 6 = .ok (.aload_n 1, 1) := by decide +kernel
theorem dX8_countTo_7 : decode cX8_countTo 7 = .ok (.iload 4, 2) := by decide +kernel
theorem dX8_countTo_9 : decode cX8_countTo 9 = .ok (.iload_n 2, 1) := by decide +kernel
theorem dX8_countTo_10 : decode cX8_countTo 10 = .ok (.iadd, 1) := by decide +kernel
theorem dX8_countTo_11 : decode cX8_countTo 11 = .ok (.invokevirtual 209, 3) := by decide +kernel
theorem dX8_countTo_14 : decode cX8_countTo 14 = .ok (.goto 72, 3) := by decide +kernel
theorem dX8_countTo_17 : decode cX8_countTo 17 = .ok (.iload_n 2, 1) := by decide +kernel
theorem dX8_countTo_18 : decode cX8_countTo 18 = .ok (.sipush 256, 3) := by decide +kernel
theorem dX8_countTo_21 : decode cX8_countTo 21 = .ok (.if_icmp .ge 26, 3) := by decide +kernel
theorem dX8_countTo_24 : decode cX8_countTo 24 = .ok (.iload 5, 2) := by decide +kernel
theorem dX8_countTo_26 : decode cX8_countTo 26 = .ok (.ifCond .le 21, 3) := by decide +kernel
theorem dX8_countTo_29 : decode cX8_countTo 29 = .ok (.aload_n 0, 1) := by decide +kernel
theorem dX8_countTo_30 : decode cX8_countTo 30 = .ok (.aload_n 1, 1) := by decide +kernel
theorem dX8_countTo_31 : decode cX8_countTo 31 = .ok (.iload 5, 2) := by decide +kernel
theorem dX8_countTo_33 : decode cX8_countTo 33 = .ok (.invokevirtual 209, 3) := by decide +kernel
theorem dX8_countTo_36 : decode cX8_countTo 36 = .ok (.aload_n 0, 1) := by decide +kernel
theorem dX8_countTo_37 : decode cX8_countTo 37 = .ok (.aload_n 1, 1) := by decide +kernel
theorem dX8_countTo_38 : decode cX8_countTo 38 = .ok (.iload_n 2, 1) := by decide +kernel
theorem dX8_countTo_39 : decode cX8_countTo 39 = .ok (.i2l, 1) := by decide +kernel
theorem dX8_countTo_40 : decode cX8_countTo 40 = .ok (.iconst 1, 1) := by decide +kernel
theorem dX8_countTo_41 : decode cX8_countTo 41 = .ok (.invokevirtual 213, 3) := by decide +kernel
theorem dX8_countTo_44 : decode cX8_countTo 44 = .ok (.goto 42, 3) := by decide +kernel
theorem dX8_countTo_47 : decode cX8_countTo 47 = .ok (.iload_n 2, 1) := by decide +kernel
theorem dX8_countTo_48 : decode cX8_countTo 48 = .ok (.ldc 7, 2) := by decide +kernel
theorem dX8_countTo_50 : decode cX8_countTo 50 = .ok (.if_icmp .ge 21, 3) := by decide +kernel
theorem dX8_countTo_53 : decode cX8_countTo 53 = .ok (.aload_n 0, 1) := by decide +kernel
theorem dX8_countTo_54 : decode cX8_countTo 54 = .ok (.aload_n 1, 1) := by decide +kernel
theorem dX8_countTo_55 : decode cX8_countTo 55 = .ok (.iload 6, 2) := by decide +kernel
theorem dX8_countTo_57 : decode cX8_countTo 57 = .ok (.invokevirtual 209, 3) := by decide +kernel
theorem dX8_countTo_60 : decode cX8_countTo 60 = .ok (.aload_n 0, 1) := by decide +kernel
theorem dX8_countTo_61 : decode cX8_countTo 61 = .ok (.aload_n 1, 1) := by decide +kernel
theorem dX8_countTo_62 : decode cX8_countTo 62 = .ok (.iload_n 2, 1) := by decide +kernel
theorem dX8_countTo_63 : decode cX8_countTo 63 = .ok (.i2l, 1) := by decide +kernel
theorem dX8_countTo_64 : decode cX8_countTo 64 = .ok (.iconst 2, 1) := by decide +kernel
theorem dX8_countTo_65 : decode cX8_countTo 65 = .ok (.invokevirtual 213, 3) := by decide +kernel
theorem dX8_countTo_68 : decode cX8_countTo 68 = .ok (.goto 18, 3) := by decide +kernel
theorem dX8_countTo_71 : decode cX8_countTo 71 = .ok (.aload_n 0, 1) := by decide +kernel
theorem dX8_countTo_72 : decode cX8_countTo 72 = .ok (.aload_n 1, 1) := by decide +kernel
theorem dX8_countTo_73 : decode cX8_countTo 73 = .ok (.iload 7, 2) := by decide +kernel
theorem dX8_countTo_75 : decode cX8_countTo 75 = .ok (.invokevirtual 209, 3) := by decide +kernel
theorem dX8_countTo_78 : decode cX8_countTo 78 = .ok (.aload_n 0, 1) := by decide +kernel
theorem dX8_countTo_79 : decode cX8_countTo 79 = .ok (.aload_n 1, 1) := by decide +kernel
theorem dX8_countTo_80 : decode cX8_countTo 80 = .ok (.iload_n 2, 1) := by decide +kernel
theorem dX8_countTo_81 : decode cX8_countTo 81 = .ok (.i2l, 1) := by decide +kernel
theorem dX8_countTo_82 : decode cX8_countTo 82 = .ok (.iconst 4, 1) := by decide +kernel
theorem dX8_countTo_83 : decode cX8_countTo 83 = .ok (.invokevirtual 213, 3) := by decide +kernel
theorem dX8_countTo_86 : decode cX8_countTo 86 = .ok (.return_, 1) := by decide +kernel
theorem dX8_integerSize_0 : decode cX8_integerSize 0 = .ok (.iload_n 2, 1) := by decide +kernel
theorem dX8_integerSize_1 : decode cX8_integerSize 1 = .ok (.ifCond .eq 6, 3) := by decide +kernel
theorem dX8_integerSize_4 : decode cX8_integerSize 4 = .ok (.bipush 9, 2) := by decide +kernel
theorem dX8_integerSize_6 : decode cX8_integerSize 6 = .ok (.ireturn, 1) := by decide +kernel
theorem dX8_integerSize_7 : decode cX8_integerSize 7 = .ok (.lload_n 0, 1) := by decide +kernel
theorem dX8_integerSize_8 : decode cX8_integerSize 8 = .ok (.ldc2_w 217, 3) := by decide +kernel
theorem dX8_integerSize_11 : decode cX8_integerSize 11 = .ok (.lcmp, 1) := by decide +kernel
theorem dX8_integerSize_12 : decode cX8_integerSize 12 = .ok (.ifCond .lt 13, 3) := by decide +kernel
theorem dX8_integerSize_15 : decode cX8_integerSize 15 = .ok (.lload_n 0, 1) := by decide +kernel
theorem dX8_integerSize_16 : decode cX8_integerSize 16 = .ok (.ldc2_w 219, 3) := by decide +kernel
theorem dX8_integerSize_19 : decode cX8_integerSize 19 = .ok (.lcmp, 1) := by decide +kernel
theorem dX8_integerSize_20 : decode cX8_integerSize 20 = .ok (.ifCond .ge 5, 3) := by decide +kernel
theorem dX8_integerSize_23 : decode cX8_integerSize 23 = .ok (.iconst 1, 1) := by decide +kernel
theorem dX8_integerSize_24 : decode cX8_integerSize 24 = .ok (.ireturn, 1) := by decide +kernel
theorem dX8_integerSize_25 : decode cX8_integerSize 25 = .ok (.iconst 1, 1) := by decide +kernel
theorem dX8_integerSize_26 : decode cX8_integerSize 26 = .ok (.istore_n 3, 1) := by decide +kernel
theorem dX8_integerSize_27 : decode cX8_integerSize 27 = .ok (.iload_n 3, 1) := by decide +kernel
theorem dX8_integerSize_28 : decode cX8_integerSize 28 = .ok (.bipush 8, 2) := by decide +kernel
theorem dX8_integerSize_30 : decode cX8_integerSize 30 = .ok (.if_icmp .ge 65, 3) := by decide +kernel
theorem dX8_integerSize_33 : decode cX8_integerSize 33 = .ok (.lload_n 0, 1) := by decide +kernel
theorem dX8_integerSize_34 : decode cX8_integerSize 34 = .ok (.lconst 0, 1) := by decide +kernel
theorem dX8_integerSize_35 : decode cX8_integerSize 35 = .ok (.lcmp, 1) := by decide +kernel
theorem dX8_integerSize_36 : decode cX8_integerSize 36 = .ok (.ifCond .lt 22, 3) := by decide +kernel
theorem dX8_integerSize_39 : decode cX8_integerSize 39 = .ok (.lload_n 0, 1) := by decide +kernel
theorem dX8_integerSize_40 : decode cX8_integerSize 40 = .ok (.lconst 1, 1) := by decide +kernel
theorem dX8_integerSize_41 : decode cX8_integerSize 41 = .ok (.bipush 8, 2) := by decide +kernel
theorem dX8_integerSize_43 : decode cX8_integerSize 43 = .ok (.iload_n 3, 1) := by decide +kernel
theorem dX8_integerSize_44 : decode cX8_integerSize 44 = .ok (.imul, 1) := by decide +kernel
theorem dX8_integerSize_45 : decode cX8_integerSize 45 = .ok (.lshl, 1) := by decide +kernel
theorem dX8_integerSize_46 : decode cX8_integerSize 46 = .ok (.lcmp, 1) := by decide +kernel
theorem dX8_integerSize_47 : decode cX8_integerSize 47 = .ok (.ifCond .ge 7, 3) := by decide +kernel
theorem dX8_integerSize_50 : decode cX8_integerSize 50 = .ok (.iconst 1, 1) := by decide +kernel
theorem dX8_integerSize_51 : decode cX8_integerSize 51 = .ok (.goto 26, 3) := by decide +kernel
theorem dX8_integerSize_54 : decode cX8_integerSize 54 = .ok (.iconst 0, 1) := by decide +kernel
theorem dX8_integerSize_55 : decode cX8_integerSize 55 = .ok (.goto 22, 3) := by decide +kernel
theorem dX8_integerSize_58 : decode cX8_integerSize 58 = .ok (.lload_n 0, 1) := by decide +kernel
theorem dX8_integerSize_59 : decode cX8_integerSize 59 = .ok (.lconst 1, 1) := by decide +kernel
theorem dX8_integerSize_60 : decode cX8_integerSize 60 = .ok (.bipush 8, 2) := by decide +kernel
theorem dX8_integerSize_62 : decode cX8_integerSize 62 = .ok (.iload_n 3, 1) := by decide +kernel
theorem dX8_integerSize_63 : decode cX8_integerSize 63 = .ok (.imul, 1) := by decide +kernel
theorem dX8_integerSize_64 : decode cX8_integerSize 64 = .ok (.iconst 1, 1) := by decide +kernel
theorem dX8_integerSize_65 : decode cX8_integerSize 65 = .ok (.isub, 1) := by decide +kernel
theorem dX8_integerSize_66 : decode cX8_integerSize 66 = .ok (.lshl, 1) := by decide +kernel
theorem dX8_integerSize_67 : decode cX8_integerSize 67 = .ok (.lneg, 1) := by decide +kernel
theorem dX8_integerSize_68 : decode cX8_integerSize 68 = .ok (.lcmp, 1) := by decide +kernel
theorem dX8_integerSize_69 : decode cX8_integerSize 69 = .ok (.ifCond .lt 7, 3) := by decide +kernel
theorem dX8_integerSize_72 : decode cX8_integerSize 72 = .ok (.iconst 1, 1) := by decide +kernel
theorem dX8_integerSize_73 : decode cX8_integerSize 73 = .ok (.goto 4, 3) := by decide +kernel
theorem dX8_integerSize_76 : decode cX8_integerSize 76 = .ok (.iconst 0, 1) := by decide +kernel
theorem dX8_integerSize_77 : decode cX8_integerSize 77 = .ok (.istore 4, 2) := by decide +kernel
theorem dX8_integerSize_79 : decode cX8_integerSize 79 = .ok (.iload 4, 2) := by decide +kernel
theorem dX8_integerSize_81 : decode cX8_integerSize 81 = .ok (.ifCond .eq 7, 3) := by decide +kernel
theorem dX8_integerSize_84 : decode cX8_integerSize 84 = .ok (.iconst 1, 1) := by decide +kernel
theorem dX8_integerSize_85 : decode cX8_integerSize 85 = .ok (.iload_n 3, 1) := by decide +kernel
theorem dX8_integerSize_86 : decode cX8_integerSize 86 = .ok (.iadd, 1) := by decide +kernel
theorem dX8_integerSize_87 : decode cX8_integerSize 87 = .ok (.ireturn, 1) := by decide +kernel
theorem dX8_integerSize_88 : decode cX8_integerSize 88 = .ok (.iconst 2, 1) := by decide +kernel
theorem dX8_integerSize_89 : decode cX8_integerSize 89 = .ok (.iload_n 3, 1) := by decide +kernel
theorem dX8_integerSize_90 : decode cX8_integerSize 90 = .ok (.imul, 1) := by decide +kernel
theorem dX8_integerSize_91 : decode cX8_integerSize 91 = .ok (.istore_n 3, 1) := by decide +kernel
theorem dX8_integerSize_92 : decode cX8_integerSize 92 = .ok (.goto (-65), 3) := by decide +kernel
theorem dX8_integerSize_95 : decode cX8_integerSize 95 = .ok (.bipush 9, 2) := by decide +kernel
theorem dX8_integerSize_97 : decode cX8_integerSize 97 = .ok (.ireturn, 1) := by decide +kernel
theorem dX8_integerTo_0 : decode cX8_integerTo 0 = .ok (.lload_n 2, 1) := by decide +kernel
theorem dX8_integerTo_1 : decode cX8_integerTo 1 = .ok (.iload 4, 2) := by decide +kernel
theorem dX8_integerTo_3 : decode cX8_integerTo 3 = .ok (.invokestatic 221, 3) := by decide +kernel
theorem dX8_integerTo_6 : decode cX8_integerTo 6 = .ok (.istore 5, 2) := by decide +kernel
theorem dX8_integerTo_8 : decode cX8_integerTo 8 = .ok (.iload 5, 2) := by decide +kernel
theorem dX8_integerTo_10 : decode cX8_integerTo 10 = .ok (.iconst 1, 1) := by decide +kernel
theorem dX8_integerTo_11 : decode cX8_integerTo 11 = .ok (.if_icmp .ne 11, 3) := by decide +kernel
theorem dX8_integerTo_14 : decode cX8_integerTo 14 = .ok (.aload_n 0, 1) := by decide +kernel
theorem dX8_integerTo_15 : decode cX8_integerTo 15 = .ok (.aload_n 1, 1) := by decide +kernel
theorem dX8_integerTo_16 : decode cX8_integerTo 16 = .ok (.lload_n 2, 1) := by decide +kernel
theorem dX8_integerTo_17 : decode cX8_integerTo 17 = .ok (.l2i, 1) := by decide +kernel
theorem dX8_integerTo_18 : decode cX8_integerTo 18 = .ok (.invokevirtual 209, 3) := by decide +kernel
theorem dX8_integerTo_21 : decode cX8_integerTo 21 = .ok (.return_, 1) := by decide +kernel
theorem dX8_integerTo_22 : decode cX8_integerTo 22 = .ok (.iload 5, 2) := by decide +kernel
theorem dX8_integerTo_24 : decode cX8_integerTo 24 = .ok (.iconst 2, 1) := by decide +kernel
theorem dX8_integerTo_25 : decode cX8_integerTo 25 = .ok (.if_icmp .ne 7, 3) := by decide +kernel
theorem dX8_integerTo_28 : decode cX8_integerTo 28 = .ok (.iconst 0, 1) := by decide +kernel
theorem dX8_integerTo_29 : decode cX8_integerTo 29 = .ok (.goto 24, 3) := by decide +kernel
theorem dX8_integerTo_32 : decode cX8_integerTo 32 = .ok (.iload 5, 2) := by decide +kernel
theorem dX8_integerTo_34 : decode cX8_integerTo 34 = .ok (.iconst 3, 1) := by decide +kernel
theorem dX8_integerTo_35 : decode cX8_integerTo 35 = .ok (.if_icmp .ne 7, 3) := by decide +kernel
theorem dX8_integerTo_38 : decode cX8_integerTo 38 = .ok (.iconst 1, 1) := by decide +kernel
theorem dX8_integerTo_39 : decode cX8_integerTo 39 = .ok (.goto 14, 3) := by decide +kernel
theorem dX8_integerTo_42 : decode cX8_integerTo 42 = .ok (.iload 5, 2) := by decide +kernel
theorem dX8_integerTo_44 : decode cX8_integerTo 44 = .ok (.iconst 5, 1) := by decide +kernel
theorem dX8_integerTo_45 : decode cX8_integerTo 45 = .ok (.if_icmp .ne 7, 3) := by decide +kernel
theorem dX8_integerTo_48 : decode cX8_integerTo 48 = .ok (.iconst 2, 1) := by decide +kernel
theorem dX8_integerTo_49 : decode cX8_integerTo 49 = .ok (.goto 4, 3) := by decide +kernel
theorem dX8_integerTo_52 : decode cX8_integerTo 52 = .ok (.iconst 3, 1) := by decide +kernel
theorem dX8_integerTo_53 : decode cX8_integerTo 53 = .ok (.istore 6, 2) := by decide +kernel
theorem dX8_integerTo_55 : decode cX8_integerTo 55 = .ok (.aload_n 0, 1) := by decide +kernel
theorem dX8_integerTo_56 : decode cX8_integerTo 56 = .ok (.aload_n 1, 1) := by decide +kernel
theorem dX8_integerTo_57 : decode cX8_integerTo 57 = .ok (.lload_n 2, 1) := by decide +kernel
theorem dX8_integerTo_58 : decode cX8_integerTo 58 = .ok (.lconst 0, 1) := by decide +kernel
theorem dX8_integerTo_59 : decode cX8_integerTo 59 = .ok (.lcmp, 1) := by decide +kernel
theorem dX8_integerTo_60 : decode cX8_integerTo 60 = .ok (.ifCond .ge 8, 3) := by decide +kernel
theorem dX8_integerTo_63 : decode cX8_integerTo 63 = .ok (.iload 4, 2) := by decide +kernel
theorem dX8_integerTo_65 : decode cX8_integerTo 65 = .ok (.ifCond .eq 9, 3) := by decide +kernel
theorem dX8_integerTo_68 : decode cX8_integerTo 68 = .ok (.sipush 204, 3) := by decide +kernel
theorem dX8_integerTo_71 : decode cX8_integerTo 71 = .ok (.goto 6, 3) := by decide +kernel
theorem dX8_integerTo_74 : decode cX8_integerTo 74 = .ok (.sipush 208, 3) := by decide +kernel
theorem dX8_integerTo_77 : decode cX8_integerTo 77 = .ok (.iload 6, 2) := by decide +kernel
theorem dX8_integerTo_79 : decode cX8_integerTo 79 = .ok (.iadd, 1) := by decide +kernel
theorem dX8_integerTo_80 : decode cX8_integerTo 80 = .ok (.invokevirtual 209, 3) := by decide +kernel
theorem dX8_integerTo_83 : decode cX8_integerTo 83 = .ok (.aload_n 0, 1) := by decide +kernel
theorem dX8_integerTo_84 : decode cX8_integerTo 84 = .ok (.aload_n 1, 1) := by decide +kernel
theorem dX8_integerTo_85 : decode cX8_integerTo 85 = .ok (.lload_n 2, 1) := by decide +kernel
theorem dX8_integerTo_86 : decode cX8_integerTo 86 = .ok (.iload 5, 2) := by decide +kernel
theorem dX8_integerTo_88 : decode cX8_integerTo 88 = .ok (.iconst 1, 1) := by decide +kernel
theorem dX8_integerTo_89 : decode cX8_integerTo 89 = .ok (.isub, 1) := by decide +kernel
theorem dX8_integerTo_90 : decode cX8_integerTo 90 = .ok (.invokevirtual 213, 3) := by decide +kernel
theorem dX8_integerTo_93 : decode cX8_integerTo 93 = .ok (.return_, 1) := by decide +kernel
theorem dX8_extensionTo_0 : decode cX8_extensionTo 0 = .ok (.iload_n 2, 1) := by decide +kernel
theorem dX8_extensionTo_1 : decode cX8_extensionTo 1 = .ok (.iconst 1, 1) := by decide +kernel
theorem dX8_extensionTo_2 : decode cX8_extensionTo 2 = .ok (.if_icmp .eq 25, 3) := by decide +kernel
theorem dX8_extensionTo_5 : decode cX8_extensionTo 5 = .ok (.iload_n 2, 1) := by decide +kernel
theorem dX8_extensionTo_6 : decode cX8_extensionTo 6 = .ok (.iconst 2, 1) := by decide +kernel
theorem dX8_extensionTo_7 : decode cX8_extensionTo 7 = .ok (.if_icmp .eq 20, 3) := by decide +kernel
theorem dX8_extensionTo_10 : decode cX8_extensionTo 10 = .ok (.iload_n 2, 1) := by decide +kernel
theorem dX8_extensionTo_11 : decode cX8_extensionTo 11 = .ok (.iconst 4, 1) := by decide +kernel
theorem dX8_extensionTo_12 : decode cX8_extensionTo 12 = .ok (.if_icmp .eq 15, 3) := by decide +kernel
theorem dX8_extensionTo_15 : decode cX8_extensionTo 15 = .ok (.iload_n 2, 1) := by decide +kernel
theorem dX8_extensionTo_16 : decode cX8_extensionTo 16 = .ok (.bipush 8, 2) := by decide +kernel
theorem dX8_extensionTo_18 : decode cX8_extensionTo 18 = .ok (.if_icmp .eq 9, 3) := by decide +kernel
theorem dX8_extensionTo_21 : decode cX8_extensionTo 21 = .ok (.iload_n 2, 1) := by decide +kernel
theorem dX8_extensionTo_22 : decode cX8_extensionTo 22 = .ok (.bipush 16, 2) := by decide +kernel
theorem dX8_extensionTo_24 : decode cX8_extensionTo 24 = .ok (.if_icmp .ne 7, 3) := by decide +kernel
theorem dX8_extensionTo_27 : decode cX8_extensionTo 27 = .ok (.iconst 1, 1) := by decide +kernel
theorem dX8_extensionTo_28 : decode cX8_extensionTo 28 = .ok (.goto 4, 3) := by decide +kernel
theorem dX8_extensionTo_31 : decode cX8_extensionTo 31 = .ok (.iconst 0, 1) := by decide +kernel
theorem dX8_extensionTo_32 : decode cX8_extensionTo 32 = .ok (.istore 4, 2) := by decide +kernel
theorem dX8_extensionTo_34 : decode cX8_extensionTo 34 = .ok (.iload 4, 2) := by decide +kernel
theorem dX8_extensionTo_36 : decode cX8_extensionTo 36 = .ok (.ifCond .eq 59, 3) := by decide +kernel
theorem dX8_extensionTo_39 : decode cX8_extensionTo 39 = .ok (.aload_n 0, 1) := by decide +kernel
theorem dX8_extensionTo_40 : decode cX8_extensionTo 40 = .ok (.aload_n 1, 1) := by decide +kernel
theorem dX8_extensionTo_41 : decode cX8_extensionTo 41 = .ok (.iload_n 2, 1) := by decide +kernel
theorem dX8_extensionTo_42 : decode cX8_extensionTo 42 = .ok (.iconst 1, 1) := by decide +kernel
theorem dX8_extensionTo_43 : decode cX8_extensionTo 43 = .ok (.if_icmp .ne 9, 3) := by decide +kernel
theorem dX8_extensionTo_46 : decode cX8_extensionTo 46 = .ok (.sipush 212, 3) := by decide +kernel
theorem dX8_extensionTo_49 : decode cX8_extensionTo 49 = .ok (.goto 40, 3) := by decide +kernel
theorem dX8_extensionTo_52 : decode cX8_extensionTo 52 = .ok (.iload_n 2, 1) := by decide +kernel
theorem dX8_extensionTo_53 : decode cX8_extensionTo 53 = .ok (.iconst 2, 1) := by decide +kernel
theorem dX8_extensionTo_54 : decode cX8_extensionTo 54 = .ok (.if_icmp .ne 9, 3) := by decide +kernel
theorem dX8_extensionTo_57 : decode cX8_extensionTo 57 = .ok (.sipush 213, 3) := by decide +kernel
theorem dX8_extensionTo_60 : decode cX8_extensionTo 60 = .ok (.goto 29, 3) := by decide +kernel
theorem dX8_extensionTo_63 : decode cX8_extensionTo 63 = .ok (.iload_n 2, 1) := by decide +kernel
theorem dX8_extensionTo_64 : decode cX8_extensionTo 64 = .ok (.iconst 4, 1) := by decide +kernel
theorem dX8_extensionTo_65 : decode cX8_extensionTo 65 = .ok (.if_icmp .ne 9, 3) := by decide +kernel
theorem dX8_extensionTo_68 : decode cX8_extensionTo 68 = .ok (.sipush 214, 3) := by decide +kernel
theorem dX8_extensionTo_71 : decode cX8_extensionTo 71 = .ok (.goto 18, 3) := by decide +kernel
theorem dX8_extensionTo_74 : decode cX8_extensionTo 74 = .ok (.iload_n 2, 1) := by decide +kernel
theorem dX8_extensionTo_75 : decode cX8_extensionTo 75 = .ok (.bipush 8, 2) := by decide +kernel
theorem dX8_extensionTo_77 : decode cX8_extensionTo 77 = .ok (.if_icmp .ne 9, 3) := by decide +kernel
theorem dX8_extensionTo_80 : decode cX8_extensionTo 80 = .ok (.sipush 215, 3) := by decide +kernel
theorem dX8_extensionTo_83 : decode cX8_extensionTo 83 = .ok (.goto 6, 3) := by decide +kernel
theorem dX8_extensionTo_86 : decode cX8_extensionTo 86 = .ok (.sipush 216, 3) := by decide +kernel
theorem dX8_extensionTo_89 : decode cX8_extensionTo 89 = .ok (.invokevirtual 209, 3) := by decide +kernel
theorem dX8_extensionTo_92 : decode cX8_extensionTo 92 = .ok (.goto 20, 3) := by decide +kernel
theorem dX8_extensionTo_95 : decode cX8_extensionTo 95 = .ok (.aload_n 0, 1) := by decide +kernel
theorem dX8_extensionTo_96 : decode cX8_extensionTo 96 = .ok (.aload_n 1, 1) := by decide +kernel
theorem dX8_extensionTo_97 : decode cX8_extensionTo 97 = .ok (.iload_n 2, 1) := by decide +kernel
theorem dX8_extensionTo_98 : decode cX8_extensionTo 98 = .ok (.iconst 0, 1) := by decide +kernel
theorem dX8_extensionTo_99 : decode cX8_extensionTo 99 = .ok (.iconst 0, 1) := by decide +kernel
theorem dX8_extensionTo_100 : decode cX8_extensionTo 100 = .ok (.sipush 199, 3) := by decide +kernel
theorem dX8_extensionTo_103 : decode cX8_extensionTo 103 = .ok (.sipush 200, 3) := by decide +kernel
theorem dX8_extensionTo_106 : decode cX8_extensionTo 106 = .ok (.sipush 201, 3) := by decide +kernel
theorem dX8_extensionTo_109 : decode cX8_extensionTo 109 = .ok (.invokevirtual 225, 3) := by decide +kernel
theorem dX8_extensionTo_112 : decode cX8_extensionTo 112 = .ok (.aload_n 0, 1) := by decide +kernel
theorem dX8_extensionTo_113 : decode cX8_extensionTo 113 = .ok (.aload_n 1, 1) := by decide +kernel
theorem dX8_extensionTo_114 : decode cX8_extensionTo 114 = .ok (.iload_n 3, 1) := by decide +kernel
theorem dX8_extensionTo_115 : decode cX8_extensionTo 115 = .ok (.invokevirtual 209, 3) := by decide +kernel
theorem dX8_extensionTo_118 : decode cX8_extensionTo 118 = .ok (.return_, 1) := by decide +kernel
theorem dX8_bytesTo_0 : decode cX8_bytesTo 0 = .ok (.iconst 0, 1) := by decide +kernel
theorem dX8_bytesTo_1 : decode cX8_bytesTo 1 = .ok (.istore_n 3, 1) := by decide +kernel
theorem dX8_bytesTo_2 : decode cX8_bytesTo 2 = .ok (.iload_n 3, 1) := by decide +kernel
theorem dX8_bytesTo_3 : decode cX8_bytesTo 3 = .ok (.aload_n 0, 1) := by decide +kernel
theorem dX8_bytesTo_4 : decode cX8_bytesTo 4 = .ok (.getfield 38, 3) := by decide +kernel
theorem dX8_bytesTo_7 : decode cX8_bytesTo 7 = .ok (.iload_n 2, 1) := by decide +kernel
theorem dX8_bytesTo_8 : decode cX8_bytesTo 8 = .ok (.iaload, 1) := by decide +kernel
theorem dX8_bytesTo_9 : decode cX8_bytesTo 9 = .ok (.if_icmp .ge 27, 3) := by decide +kernel
theorem dX8_bytesTo_12 : decode cX8_bytesTo 12 = .ok (.aload_n 0, 1) := by decide +kernel
theorem dX8_bytesTo_13 : decode cX8_bytesTo 13 = .ok (.aload_n 1, 1) := by decide +kernel
theorem dX8_bytesTo_14 : decode cX8_bytesTo 14 = .ok (.aload_n 0, 1) := by decide +kernel
theorem dX8_bytesTo_15 : decode cX8_bytesTo 15 = .ok (.getfield 47, 3) := by decide +kernel
theorem dX8_bytesTo_18 : decode cX8_bytesTo 18 = .ok (.aload_n 0, 1) := by decide +kernel
theorem dX8_bytesTo_19 : decode cX8_bytesTo 19 = .ok (.getfield 32, 3) := by decide +kernel
theorem dX8_bytesTo_22 : decode cX8_bytesTo 22 = .ok (.iload_n 2, 1) := by decide +kernel
theorem dX8_bytesTo_23 : decode cX8_bytesTo 23 = .ok (.iaload, 1) := by decide +kernel
theorem dX8_bytesTo_24 : decode cX8_bytesTo 24 = .ok (.iload_n 3, 1) := by decide +kernel
theorem dX8_bytesTo_25 : decode cX8_bytesTo 25 = .ok (.iadd, 1) := by decide +kernel
theorem dX8_bytesTo_26 : decode cX8_bytesTo 26 = .ok (.baload, 1) := by decide +kernel
theorem dX8_bytesTo_27 : decode cX8_bytesTo 27 = .ok (.invokevirtual 209, 3) := by decide +kernel
theorem dX8_bytesTo_30 : decode cX8_bytesTo 30 = .ok (.iinc 3 1, 3) := by decide +kernel
theorem dX8_bytesTo_33 : decode cX8_bytesTo 33 = .ok (.goto (-31), 3) := by decide +kernel
theorem dX8_bytesTo_36 : decode cX8_bytesTo 36 = .ok (.return_, 1) := by decide +kernel
theorem dX8_plainTo_0 : decode cX8_plainTo 0 = .ok (.aload_n 0, 1) := by decide +kernel
theorem dX8_plainTo_1 : decode cX8_plainTo 1 = .ok (.getfield 17, 3) := by decide +kernel
theorem dX8_plainTo_4 : decode cX8_plainTo 4 = .ok (.iload_n 2, 1) := by decide +kernel
theorem dX8_plainTo_5 : decode cX8_plainTo 5 = .ok (.iaload, 1) := by decide +kernel
theorem dX8_plainTo_6 : decode cX8_plainTo 6 = .ok (.tableswitch 241 0 9 #[54, 65, 83, 103, 126, 150, 184, 241, 241, 215], 54) := by decide +kernel
theorem dX8_plainTo_60 : decode cX8_plainTo 60 = .ok (.aload_n 0, 1) := by decide +kernel
theorem dX8_plainTo_61 : decode cX8_plainTo 61 = .ok (.aload_n 1, 1) := by decide +kernel
theorem dX8_plainTo_62 : decode cX8_plainTo 62 = .ok (.sipush 192, 3) := by decide +kernel
theorem dX8_plainTo_65 : decode cX8_plainTo 65 = .ok (.invokevirtual 209, 3) := by decide +kernel
theorem dX8_plainTo_68 : decode cX8_plainTo 68 = .ok (.goto 196, 3) := by decide +kernel
theorem dX8_plainTo_71 : decode cX8_plainTo 71 = .ok (.aload_n 0, 1) := by decide +kernel
theorem dX8_plainTo_72 : decode cX8_plainTo 72 = .ok (.aload_n 1, 1) := by decide +kernel
theorem dX8_plainTo_73 : decode cX8_plainTo 73 = .ok (.sipush 194, 3) := by decide +kernel
theorem dX8_plainTo_76 : decode cX8_plainTo 76 = .ok (.aload_n 0, 1) := by decide +kernel
theorem dX8_plainTo_77 : decode cX8_plainTo 77 = .ok (.getfield 29, 3) := by decide +kernel
theorem dX8_plainTo_80 : decode cX8_plainTo 80 = .ok (.iload_n 2, 1) := by decide +kernel
theorem dX8_plainTo_81 : decode cX8_plainTo 81 = .ok (.iaload, 1) := by decide +kernel
theorem dX8_plainTo_82 : decode cX8_plainTo 82 = .ok (.iadd, 1) := by decide +kernel
theorem dX8_plainTo_83 : decode cX8_plainTo 83 = .ok (.invokevirtual 209, 3) := by decide +kernel
theorem dX8_plainTo_86 : decode cX8_plainTo 86 = .ok (.goto 178, 3) := by decide +kernel
theorem dX8_plainTo_89 : decode cX8_plainTo 89 = .ok (.aload_n 0, 1) := by decide +kernel
theorem dX8_plainTo_90 : decode cX8_plainTo 90 = .ok (.aload_n 1, 1) := by decide +kernel
theorem dX8_plainTo_91 : decode cX8_plainTo 91 = .ok (.aload_n 0, 1) := by decide +kernel
theorem dX8_plainTo_92 : decode cX8_plainTo 92 = .ok (.getfield 21, 3) := by decide +kernel
theorem dX8_plainTo_95 : decode cX8_plainTo 95 = .ok (.iload_n 2, 1) := by decide +kernel
theorem dX8_plainTo_96 : decode cX8_plainTo 96 = .ok (.laload, 1) := by decide +kernel
theorem dX8_plainTo_97 : decode cX8_plainTo 97 = .ok (.aload_n 0, 1) := by decide +kernel
theorem dX8_plainTo_98 : decode cX8_plainTo 98 = .ok (.getfield 25, 3) := by decide +kernel
theorem dX8_plainTo_101 : decode cX8_plainTo 101 = .ok (.iload_n 2, 1) := by decide +kernel
theorem dX8_plainTo_102 : decode cX8_plainTo 102 = .ok (.baload, 1) := by decide +kernel
theorem dX8_plainTo_103 : decode cX8_plainTo 103 = .ok (.invokevirtual 229, 3) := by decide +kernel
theorem dX8_plainTo_106 : decode cX8_plainTo 106 = .ok (.goto 158, 3) := by decide +kernel
theorem dX8_plainTo_109 : decode cX8_plainTo 109 = .ok (.aload_n 0, 1) := by decide +kernel
theorem dX8_plainTo_110 : decode cX8_plainTo 110 = .ok (.aload_n 1, 1) := by decide +kernel
theorem dX8_plainTo_111 : decode cX8_plainTo 111 = .ok (.sipush 202, 3) := by decide +kernel
theorem dX8_plainTo_114 : decode cX8_plainTo 114 = .ok (.invokevirtual 209, 3) := by decide +kernel
theorem dX8_plainTo_117 : decode cX8_plainTo 117 = .ok (.aload_n 0, 1) := by decide +kernel
theorem dX8_plainTo_118 : decode cX8_plainTo 118 = .ok (.aload_n 1, 1) := by decide +kernel
theorem dX8_plainTo_119 : decode cX8_plainTo 119 = .ok (.aload_n 0, 1) := by decide +kernel
theorem dX8_plainTo_120 : decode cX8_plainTo 120 = .ok (.getfield 21, 3) := by decide +kernel
theorem dX8_plainTo_123 : decode cX8_plainTo 123 = .ok (.iload_n 2, 1) := by decide +kernel
theorem dX8_plainTo_124 : decode cX8_plainTo 124 = .ok (.laload, 1) := by decide +kernel
theorem dX8_plainTo_125 : decode cX8_plainTo 125 = .ok (.iconst 4, 1) := by decide +kernel
theorem dX8_plainTo_126 : decode cX8_plainTo 126 = .ok (.invokevirtual 213, 3) := by decide +kernel
theorem dX8_plainTo_129 : decode cX8_plainTo 129 = .ok (.goto 135, 3) := by decide +kernel
theorem dX8_plainTo_132 : decode cX8_plainTo 132 = .ok (.aload_n 0, 1) := by decide +kernel
theorem dX8_plainTo_133 : decode cX8_plainTo 133 = .ok (.aload_n 1, 1) := by decide +kernel
theorem dX8_plainTo_134 : decode cX8_plainTo 134 = .ok (.sipush 203, 3) := by decide +kernel
theorem dX8_plainTo_137 : decode cX8_plainTo 137 = .ok (.invokevirtual 209, 3) := by decide +kernel
theorem dX8_plainTo_140 : decode cX8_plainTo 140 = .ok (.aload_n 0, 1) := by decide +kernel
theorem dX8_plainTo_141 : decode cX8_plainTo 141 = .ok (.aload_n 1, 1) := by decide +kernel
theorem dX8_plainTo_142 : decode cX8_plainTo 142 = .ok (.aload_n 0, 1) := by decide +kernel
theorem dX8_plainTo_143 : decode cX8_plainTo 143 = .ok (.getfield 21, 3) := by decide +kernel
theorem dX8_plainTo_146 : decode cX8_plainTo 146 = .ok (.iload_n 2, 1) := by decide +kernel
theorem dX8_plainTo_147 : decode cX8_plainTo 147 = .ok (.laload, 1) := by decide +kernel
theorem dX8_plainTo_148 : decode cX8_plainTo 148 = .ok (.bipush 8, 2) := by decide +kernel
theorem dX8_plainTo_150 : decode cX8_plainTo 150 = .ok (.invokevirtual 213, 3) := by decide +kernel
theorem dX8_plainTo_153 : decode cX8_plainTo 153 = .ok (.goto 111, 3) := by decide +kernel
theorem dX8_plainTo_156 : decode cX8_plainTo 156 = .ok (.aload_n 0, 1) := by decide +kernel
theorem dX8_plainTo_157 : decode cX8_plainTo 157 = .ok (.aload_n 1, 1) := by decide +kernel
theorem dX8_plainTo_158 : decode cX8_plainTo 158 = .ok (.aload_n 0, 1) := by decide +kernel
theorem dX8_plainTo_159 : decode cX8_plainTo 159 = .ok (.getfield 38, 3) := by decide +kernel
theorem dX8_plainTo_162 : decode cX8_plainTo 162 = .ok (.iload_n 2, 1) := by decide +kernel
theorem dX8_plainTo_163 : decode cX8_plainTo 163 = .ok (.iaload, 1) := by decide +kernel
theorem dX8_plainTo_164 : decode cX8_plainTo 164 = .ok (.bipush 32, 2) := by decide +kernel
theorem dX8_plainTo_166 : decode cX8_plainTo 166 = .ok (.sipush 160, 3) := by decide +kernel
theorem dX8_plainTo_169 : decode cX8_plainTo 169 = .ok (.sipush 217, 3) := by decide +kernel
theorem dX8_plainTo_172 : decode cX8_plainTo 172 = .ok (.sipush 218, 3) := by decide +kernel
theorem dX8_plainTo_175 : decode cX8_plainTo 175 = .ok (.sipush 219, 3) := by decide +kernel
theorem dX8_plainTo_178 : decode cX8_plainTo 178 = .ok (.invokevirtual 225, 3) := by decide +kernel
theorem dX8_plainTo_181 : decode cX8_plainTo 181 = .ok (.aload_n 0, 1) := by decide +kernel
theorem dX8_plainTo_182 : decode cX8_plainTo 182 = .ok (.aload_n 1, 1) := by decide +kernel
theorem dX8_plainTo_183 : decode cX8_plainTo 183 = .ok (.iload_n 2, 1) := by decide +kernel
theorem dX8_plainTo_184 : decode cX8_plainTo 184 = .ok (.invokevirtual 233, 3) := by decide +kernel
theorem dX8_plainTo_187 : decode cX8_plainTo 187 = .ok (.goto 77, 3) := by decide +kernel
theorem dX8_plainTo_190 : decode cX8_plainTo 190 = .ok (.aload_n 0, 1) := by decide +kernel
theorem dX8_plainTo_191 : decode cX8_plainTo 191 = .ok (.aload_n 1, 1) := by decide +kernel
theorem dX8_plainTo_192 : decode cX8_plainTo 192 = .ok (.aload_n 0, 1) := by decide +kernel
theorem dX8_plainTo_193 : decode cX8_plainTo 193 = .ok (.getfield 38, 3) := by decide +kernel
theorem dX8_plainTo_196 : decode cX8_plainTo 196 = .ok (.iload_n 2, 1) := by decide +kernel
theorem dX8_plainTo_197 : decode cX8_plainTo 197 = .ok (.iaload, 1) := by decide +kernel
theorem dX8_plainTo_198 : decode cX8_plainTo 198 = .ok (.iconst 0, 1) := by decide +kernel
theorem dX8_plainTo_199 : decode cX8_plainTo 199 = .ok (.iconst 0, 1) := by decide +kernel
theorem dX8_plainTo_200 : decode cX8_plainTo 200 = .ok (.sipush 196, 3) := by decide +kernel
theorem dX8_plainTo_203 : decode cX8_plainTo 203 = .ok (.sipush 197, 3) := by decide +kernel
theorem dX8_plainTo_206 : decode cX8_plainTo 206 = .ok (.sipush 198, 3) := by decide +kernel
theorem dX8_plainTo_209 : decode cX8_plainTo 209 = .ok (.invokevirtual 225, 3) := by decide +kernel
theorem dX8_plainTo_212 : decode cX8_plainTo 212 = .ok (.aload_n 0, 1) := by decide +kernel
theorem dX8_plainTo_213 : decode cX8_plainTo 213 = .ok (.aload_n 1, 1) := by decide +kernel
theorem dX8_plainTo_214 : decode cX8_plainTo 214 = .ok (.iload_n 2, 1) := by decide +kernel
theorem dX8_plainTo_215 : decode cX8_plainTo 215 = .ok (.invokevirtual 233, 3) := by decide +kernel
theorem dX8_plainTo_218 : decode cX8_plainTo 218 = .ok (.goto 46, 3) := by decide +kernel
theorem dX8_plainTo_221 : decode cX8_plainTo 221 = .ok (.aload_n 0, 1) := by decide +kernel
theorem dX8_plainTo_222 : decode cX8_plainTo 222 = .ok (.aload_n 1, 1) := by decide +kernel
theorem dX8_plainTo_223 : decode cX8_plainTo 223 = .ok (.aload_n 0, 1) := by decide +kernel
theorem dX8_plainTo_224 : decode cX8_plainTo 224 = .ok (.getfield 38, 3) := by decide +kernel
theorem dX8_plainTo_227 : decode cX8_plainTo 227 = .ok (.iload_n 2, 1) := by decide +kernel
theorem dX8_plainTo_228 : decode cX8_plainTo 228 = .ok (.iaload, 1) := by decide +kernel
theorem dX8_plainTo_229 : decode cX8_plainTo 229 = .ok (.aload_n 0, 1) := by decide +kernel
theorem dX8_plainTo_230 : decode cX8_plainTo 230 = .ok (.getfield 29, 3) := by decide +kernel
theorem dX8_plainTo_233 : decode cX8_plainTo 233 = .ok (.iload_n 2, 1) := by decide +kernel
theorem dX8_plainTo_234 : decode cX8_plainTo 234 = .ok (.iaload, 1) := by decide +kernel
theorem dX8_plainTo_235 : decode cX8_plainTo 235 = .ok (.invokevirtual 236, 3) := by decide +kernel
theorem dX8_plainTo_238 : decode cX8_plainTo 238 = .ok (.aload_n 0, 1) := by decide +kernel
theorem dX8_plainTo_239 : decode cX8_plainTo 239 = .ok (.aload_n 1, 1) := by decide +kernel
theorem dX8_plainTo_240 : decode cX8_plainTo 240 = .ok (.iload_n 2, 1) := by decide +kernel
theorem dX8_plainTo_241 : decode cX8_plainTo 241 = .ok (.invokevirtual 233, 3) := by decide +kernel
theorem dX8_plainTo_244 : decode cX8_plainTo 244 = .ok (.goto 20, 3) := by decide +kernel
theorem dX8_plainTo_247 : decode cX8_plainTo 247 = .ok (.aload_n 0, 1) := by decide +kernel
theorem dX8_plainTo_248 : decode cX8_plainTo 248 = .ok (.aload_n 1, 1) := by decide +kernel
theorem dX8_plainTo_249 : decode cX8_plainTo 249 = .ok (.aload_n 0, 1) := by decide +kernel
theorem dX8_plainTo_250 : decode cX8_plainTo 250 = .ok (.getfield 21, 3) := by decide +kernel
theorem dX8_plainTo_253 : decode cX8_plainTo 253 = .ok (.iload_n 2, 1) := by decide +kernel
theorem dX8_plainTo_254 : decode cX8_plainTo 254 = .ok (.laload, 1) := by decide +kernel
theorem dX8_plainTo_255 : decode cX8_plainTo 255 = .ok (.aload_n 0, 1) := by decide +kernel
theorem dX8_plainTo_256 : decode cX8_plainTo 256 = .ok (.getfield 29, 3) := by decide +kernel
theorem dX8_plainTo_259 : decode cX8_plainTo 259 = .ok (.iload_n 2, 1) := by decide +kernel
theorem dX8_plainTo_260 : decode cX8_plainTo 260 = .ok (.iaload, 1) := by decide +kernel
theorem dX8_plainTo_261 : decode cX8_plainTo 261 = .ok (.invokevirtual 240, 3) := by decide +kernel
theorem dX8_plainTo_264 : decode cX8_plainTo 264 = .ok (.return_, 1) := by decide +kernel
theorem dX8_timeTo_0 : decode cX8_timeTo 0 = .ok (.lload_n 2, 1) := by decide +kernel
theorem dX8_timeTo_1 : decode cX8_timeTo 1 = .ok (.lconst 0, 1) := by decide +kernel
theorem dX8_timeTo_2 : decode cX8_timeTo 2 = .ok (.lcmp, 1) := by decide +kernel
theorem dX8_timeTo_3 : decode cX8_timeTo 3 = .ok (.ifCond .lt 33, 3) := by decide +kernel
theorem dX8_timeTo_6 : decode cX8_timeTo 6 = .ok (.lload_n 2, 1) := by decide +kernel
theorem dX8_timeTo_7 : decode cX8_timeTo 7 = .ok (.ldc2_w 243, 3) := by decide +kernel
theorem dX8_timeTo_10 : decode cX8_timeTo 10 = .ok (.lcmp, 1) := by decide +kernel
theorem dX8_timeTo_11 : decode cX8_timeTo 11 = .ok (.ifCond .ge 25, 3) := by decide +kernel
theorem dX8_timeTo_14 : decode cX8_timeTo 14 = .ok (.iload 4, 2) := by decide +kernel
theorem dX8_timeTo_16 : decode cX8_timeTo 16 = .ok (.ifCond .ne 20, 3) := by decide +kernel
theorem dX8_timeTo_19 : decode cX8_timeTo 19 = .ok (.aload_n 0, 1) := by decide +kernel
theorem dX8_timeTo_20 : decode cX8_timeTo 20 = .ok (.aload_n 1, 1) := by decide +kernel
theorem dX8_timeTo_21 : decode cX8_timeTo 21 = .ok (.iconst 4, 1) := by decide +kernel
theorem dX8_timeTo_22 : decode cX8_timeTo 22 = .ok (.iconst (-1), 1) := by decide +kernel
theorem dX8_timeTo_23 : decode cX8_timeTo 23 = .ok (.invokevirtual 236, 3) := by decide +kernel
theorem dX8_timeTo_26 : decode cX8_timeTo 26 = .ok (.aload_n 0, 1) := by decide +kernel
theorem dX8_timeTo_27 : decode cX8_timeTo 27 = .ok (.aload_n 1, 1) := by decide +kernel
theorem dX8_timeTo_28 : decode cX8_timeTo 28 = .ok (.lload_n 2, 1) := by decide +kernel
theorem dX8_timeTo_29 : decode cX8_timeTo 29 = .ok (.iconst 4, 1) := by decide +kernel
theorem dX8_timeTo_30 : decode cX8_timeTo 30 = .ok (.invokevirtual 213, 3) := by decide +kernel
theorem dX8_timeTo_33 : decode cX8_timeTo 33 = .ok (.goto 68, 3) := by decide +kernel
theorem dX8_timeTo_36 : decode cX8_timeTo 36 = .ok (.lload_n 2, 1) := by decide +kernel
theorem dX8_timeTo_37 : decode cX8_timeTo 37 = .ok (.lconst 0, 1) := by decide +kernel
theorem dX8_timeTo_38 : decode cX8_timeTo 38 = .ok (.lcmp, 1) := by decide +kernel
theorem dX8_timeTo_39 : decode cX8_timeTo 39 = .ok (.ifCond .lt 37, 3) := by decide +kernel
theorem dX8_timeTo_42 : decode cX8_timeTo 42 = .ok (.lload_n 2, 1) := by decide +kernel
theorem dX8_timeTo_43 : decode cX8_timeTo 43 = .ok (.ldc2_w 245, 3) := by decide +kernel
theorem dX8_timeTo_46 : decode cX8_timeTo 46 = .ok (.lcmp, 1) := by decide +kernel
theorem dX8_timeTo_47 : decode cX8_timeTo 47 = .ok (.ifCond .ge 29, 3) := by decide +kernel
theorem dX8_timeTo_50 : decode cX8_timeTo 50 = .ok (.aload_n 0, 1) := by decide +kernel
theorem dX8_timeTo_51 : decode cX8_timeTo 51 = .ok (.aload_n 1, 1) := by decide +kernel
theorem dX8_timeTo_52 : decode cX8_timeTo 52 = .ok (.bipush 8, 2) := by decide +kernel
theorem dX8_timeTo_54 : decode cX8_timeTo 54 = .ok (.iconst (-1), 1) := by decide +kernel
theorem dX8_timeTo_55 : decode cX8_timeTo 55 = .ok (.invokevirtual 236, 3) := by decide +kernel
theorem dX8_timeTo_58 : decode cX8_timeTo 58 = .ok (.aload_n 0, 1) := by decide +kernel
theorem dX8_timeTo_59 : decode cX8_timeTo 59 = .ok (.aload_n 1, 1) := by decide +kernel
theorem dX8_timeTo_60 : decode cX8_timeTo 60 = .ok (.iload 4, 2) := by decide +kernel
theorem dX8_timeTo_62 : decode cX8_timeTo 62 = .ok (.i2l, 1) := by decide +kernel
theorem dX8_timeTo_63 : decode cX8_timeTo 63 = .ok (.bipush 34, 2) := by decide +kernel
theorem dX8_timeTo_65 : decode cX8_timeTo 65 = .ok (.lshl, 1) := by decide +kernel
theorem dX8_timeTo_66 : decode cX8_timeTo 66 = .ok (.lload_n 2, 1) := by decide +kernel
theorem dX8_timeTo_67 : decode cX8_timeTo 67 = .ok (.ladd, 1) := by decide +kernel
theorem dX8_timeTo_68 : decode cX8_timeTo 68 = .ok (.bipush 8, 2) := by decide +kernel
theorem dX8_timeTo_70 : decode cX8_timeTo 70 = .ok (.invokevirtual 213, 3) := by decide +kernel
theorem dX8_timeTo_73 : decode cX8_timeTo 73 = .ok (.goto 28, 3) := by decide +kernel
theorem dX8_timeTo_76 : decode cX8_timeTo 76 = .ok (.aload_n 0, 1) := by decide +kernel
theorem dX8_timeTo_77 : decode cX8_timeTo 77 = .ok (.aload_n 1, 1) := by decide +kernel
theorem dX8_timeTo_78 : decode cX8_timeTo 78 = .ok (.bipush 12, 2) := by decide +kernel
theorem dX8_timeTo_80 : decode cX8_timeTo 80 = .ok (.iconst (-1), 1) := by decide +kernel
theorem dX8_timeTo_81 : decode cX8_timeTo 81 = .ok (.invokevirtual 236, 3) := by decide +kernel
theorem dX8_timeTo_84 : decode cX8_timeTo 84 = .ok (.aload_n 0, 1) := by decide +kernel
theorem dX8_timeTo_85 : decode cX8_timeTo 85 = .ok (.aload_n 1, 1) := by decide +kernel
theorem dX8_timeTo_86 : decode cX8_timeTo 86 = .ok (.iload 4, 2) := by decide +kernel
theorem dX8_timeTo_88 : decode cX8_timeTo 88 = .ok (.i2l, 1) := by decide +kernel
theorem dX8_timeTo_89 : decode cX8_timeTo 89 = .ok (.iconst 4, 1) := by decide +kernel
theorem dX8_timeTo_90 : decode cX8_timeTo 90 = .ok (.invokevirtual 213, 3) := by decide +kernel
theorem dX8_timeTo_93 : decode cX8_timeTo 93 = .ok (.aload_n 0, 1) := by decide +kernel
theorem dX8_timeTo_94 : decode cX8_timeTo 94 = .ok (.aload_n 1, 1) := by decide +kernel
theorem dX8_timeTo_95 : decode cX8_timeTo 95 = .ok (.lload_n 2, 1) := by decide +kernel
theorem dX8_timeTo_96 : decode cX8_timeTo 96 = .ok (.bipush 8, 2) := by decide +kernel
theorem dX8_timeTo_98 : decode cX8_timeTo 98 = .ok (.invokevirtual 213, 3) := by decide +kernel
theorem dX8_timeTo_101 : decode cX8_timeTo 101 = .ok (.return_, 1) := by decide +kernel
theorem dX8_valueTo_0 : decode cX8_valueTo 0 = .ok (.aload_n 0, 1) := by decide +kernel
theorem dX8_valueTo_1 : decode cX8_valueTo 1 = .ok (.getfield 17, 3) := by decide +kernel
theorem dX8_valueTo_4 : decode cX8_valueTo 4 = .ok (.iload_n 2, 1) := by decide +kernel
theorem dX8_valueTo_5 : decode cX8_valueTo 5 = .ok (.iaload, 1) := by decide +kernel
theorem dX8_valueTo_6 : decode cX8_valueTo 6 = .ok (.invokestatic 100, 3) := by decide +kernel
theorem dX8_valueTo_9 : decode cX8_valueTo 9 = .ok (.ifCond .ne 12, 3) := by decide +kernel
theorem dX8_valueTo_12 : decode cX8_valueTo 12 = .ok (.aload_n 0, 1) := by decide +kernel
theorem dX8_valueTo_13 : decode cX8_valueTo 13 = .ok (.aload_n 1, 1) := by decide +kernel
theorem dX8_valueTo_14 : decode cX8_valueTo 14 = .ok (.iload_n 2, 1) := by decide +kernel
theorem dX8_valueTo_15 : decode cX8_valueTo 15 = .ok (.invokevirtual 247, 3) := by decide +kernel
theorem dX8_valueTo_18 : decode cX8_valueTo 18 = .ok (.goto 186, 3) := by decide +kernel
theorem dX8_valueTo_21 : decode cX8_valueTo 21 = .ok (.aload_n 0, 1) := by decide +kernel
theorem dX8_valueTo_22 : decode cX8_valueTo 22 = .ok (.getfield 56, 3) := by decide +kernel
theorem dX8_valueTo_25 : decode cX8_valueTo 25 = .ok (.iload_n 2, 1) := by decide +kernel
theorem dX8_valueTo_26 : decode cX8_valueTo 26 = .ok (.iaload, 1) := by decide +kernel
theorem dX8_valueTo_27 : decode cX8_valueTo 27 = .ok (.aload_n 0, 1) := by decide +kernel
theorem dX8_valueTo_28 : decode cX8_valueTo 28 = .ok (.getfield 250, 3) := by decide +kernel
theorem dX8_valueTo_31 : decode cX8_valueTo 31 = .ok (.if_icmp .ne 36, 3) := by decide +kernel
theorem dX8_valueTo_34 : decode cX8_valueTo 34 = .ok (.aload_n 0, 1) := by decide +kernel
theorem dX8_valueTo_35 : decode cX8_valueTo 35 = .ok (.aload_n 1, 1) := by decide +kernel
theorem dX8_valueTo_36 : decode cX8_valueTo 36 = .ok (.aload_n 0, 1) := by decide +kernel
theorem dX8_valueTo_37 : decode cX8_valueTo 37 = .ok (.getfield 59, 3) := by decide +kernel
theorem dX8_valueTo_40 : decode cX8_valueTo 40 = .ok (.iload_n 2, 1) := by decide +kernel
theorem dX8_valueTo_41 : decode cX8_valueTo 41 = .ok (.iaload, 1) := by decide +kernel
theorem dX8_valueTo_42 : decode cX8_valueTo 42 = .ok (.i2l, 1) := by decide +kernel
theorem dX8_valueTo_43 : decode cX8_valueTo 43 = .ok (.iconst 0, 1) := by decide +kernel
theorem dX8_valueTo_44 : decode cX8_valueTo 44 = .ok (.invokestatic 221, 3) := by decide +kernel
theorem dX8_valueTo_47 : decode cX8_valueTo 47 = .ok (.iconst 0, 1) := by decide +kernel
theorem dX8_valueTo_48 : decode cX8_valueTo 48 = .ok (.invokevirtual 236, 3) := by decide +kernel
theorem dX8_valueTo_51 : decode cX8_valueTo 51 = .ok (.aload_n 0, 1) := by decide +kernel
theorem dX8_valueTo_52 : decode cX8_valueTo 52 = .ok (.aload_n 1, 1) := by decide +kernel
theorem dX8_valueTo_53 : decode cX8_valueTo 53 = .ok (.aload_n 0, 1) := by decide +kernel
theorem dX8_valueTo_54 : decode cX8_valueTo 54 = .ok (.getfield 59, 3) := by decide +kernel
theorem dX8_valueTo_57 : decode cX8_valueTo 57 = .ok (.iload_n 2, 1) := by decide +kernel
theorem dX8_valueTo_58 : decode cX8_valueTo 58 = .ok (.iaload, 1) := by decide +kernel
theorem dX8_valueTo_59 : decode cX8_valueTo 59 = .ok (.i2l, 1) := by decide +kernel
theorem dX8_valueTo_60 : decode cX8_valueTo 60 = .ok (.iconst 0, 1) := by decide +kernel
theorem dX8_valueTo_61 : decode cX8_valueTo 61 = .ok (.invokevirtual 229, 3) := by decide +kernel
theorem dX8_valueTo_64 : decode cX8_valueTo 64 = .ok (.goto 140, 3) := by decide +kernel
theorem dX8_valueTo_67 : decode cX8_valueTo 67 = .ok (.aload_n 0, 1) := by decide +kernel
theorem dX8_valueTo_68 : decode cX8_valueTo 68 = .ok (.getfield 186, 3) := by decide +kernel
theorem dX8_valueTo_71 : decode cX8_valueTo 71 = .ok (.bipush 24, 2) := by decide +kernel
theorem dX8_valueTo_73 : decode cX8_valueTo 73 = .ok (.if_icmp .ne 5, 3) := by decide +kernel
theorem dX8_valueTo_76 : decode cX8_valueTo 76 = .ok (.iconst 0, 1) := by decide +kernel
theorem dX8_valueTo_77 : decode cX8_valueTo 77 = .ok (.ireturn, 1) := by decide +kernel
theorem dX8_valueTo_78 : decode cX8_valueTo 78 = .ok (.aload_n 0, 1) := by decide +kernel
theorem dX8_valueTo_79 : decode cX8_valueTo 79 = .ok (.getfield 56, 3) := by decide +kernel
theorem dX8_valueTo_82 : decode cX8_valueTo 82 = .ok (.iload_n 2, 1) := by decide +kernel
theorem dX8_valueTo_83 : decode cX8_valueTo 83 = .ok (.aload_n 0, 1) := by decide +kernel
theorem dX8_valueTo_84 : decode cX8_valueTo 84 = .ok (.getfield 250, 3) := by decide +kernel
theorem dX8_valueTo_87 : decode cX8_valueTo 87 = .ok (.iastore, 1) := by decide +kernel
theorem dX8_valueTo_88 : decode cX8_valueTo 88 = .ok (.aload_n 0, 1) := by decide +kernel
theorem dX8_valueTo_89 : decode cX8_valueTo 89 = .ok (.getfield 59, 3) := by decide +kernel
theorem dX8_valueTo_92 : decode cX8_valueTo 92 = .ok (.iload_n 2, 1) := by decide +kernel
theorem dX8_valueTo_93 : decode cX8_valueTo 93 = .ok (.aload_n 0, 1) := by decide +kernel
theorem dX8_valueTo_94 : decode cX8_valueTo 94 = .ok (.getfield 253, 3) := by decide +kernel
theorem dX8_valueTo_97 : decode cX8_valueTo 97 = .ok (.iastore, 1) := by decide +kernel
theorem dX8_valueTo_98 : decode cX8_valueTo 98 = .ok (.aload_n 0, 1) := by decide +kernel
theorem dX8_valueTo_99 : decode cX8_valueTo 99 = .ok (.dup, 1) := by decide +kernel
theorem dX8_valueTo_100 : decode cX8_valueTo 100 = .ok (.getfield 253, 3) := by decide +kernel
theorem dX8_valueTo_103 : decode cX8_valueTo 103 = .ok (.iconst 1, 1) := by decide +kernel
theorem dX8_valueTo_104 : decode cX8_valueTo 104 = .ok (.iadd, 1) := by decide +kernel
theorem dX8_valueTo_105 : decode cX8_valueTo 105 = .ok (.putfield 253, 3) := by decide +kernel
theorem dX8_valueTo_108 : decode cX8_valueTo 108 = .ok (.aload_n 0, 1) := by decide +kernel
theorem dX8_valueTo_109 : decode cX8_valueTo 109 = .ok (.getfield 17, 3) := by decide +kernel
theorem dX8_valueTo_112 : decode cX8_valueTo 112 = .ok (.iload_n 2, 1) := by decide +kernel
theorem dX8_valueTo_113 : decode cX8_valueTo 113 = .ok (.iaload, 1) := by decide +kernel
theorem dX8_valueTo_114 : decode cX8_valueTo 114 = .ok (.bipush 7, 2) := by decide +kernel
theorem dX8_valueTo_116 : decode cX8_valueTo 116 = .ok (.if_icmp .ne 29, 3) := by decide +kernel
theorem dX8_valueTo_119 : decode cX8_valueTo 119 = .ok (.aload_n 0, 1) := by decide +kernel
theorem dX8_valueTo_120 : decode cX8_valueTo 120 = .ok (.aload_n 1, 1) := by decide +kernel
theorem dX8_valueTo_121 : decode cX8_valueTo 121 = .ok (.aload_n 0, 1) := by decide +kernel
theorem dX8_valueTo_122 : decode cX8_valueTo 122 = .ok (.getfield 38, 3) := by decide +kernel
theorem dX8_valueTo_125 : decode cX8_valueTo 125 = .ok (.iload_n 2, 1) := by decide +kernel
theorem dX8_valueTo_126 : decode cX8_valueTo 126 = .ok (.iaload, 1) := by decide +kernel
theorem dX8_valueTo_127 : decode cX8_valueTo 127 = .ok (.bipush 16, 2) := by decide +kernel
theorem dX8_valueTo_129 : decode cX8_valueTo 129 = .ok (.sipush 144, 3) := by decide +kernel
theorem dX8_valueTo_132 : decode cX8_valueTo 132 = .ok (.iconst 0, 1) := by decide +kernel
theorem dX8_valueTo_133 : decode cX8_valueTo 133 = .ok (.sipush 220, 3) := by decide +kernel
theorem dX8_valueTo_136 : decode cX8_valueTo 136 = .ok (.sipush 221, 3) := by decide +kernel
theorem dX8_valueTo_139 : decode cX8_valueTo 139 = .ok (.invokevirtual 225, 3) := by decide +kernel
theorem dX8_valueTo_142 : decode cX8_valueTo 142 = .ok (.goto 26, 3) := by decide +kernel
theorem dX8_valueTo_145 : decode cX8_valueTo 145 = .ok (.aload_n 0, 1) := by decide +kernel
theorem dX8_valueTo_146 : decode cX8_valueTo 146 = .ok (.aload_n 1, 1) := by decide +kernel
theorem dX8_valueTo_147 : decode cX8_valueTo 147 = .ok (.aload_n 0, 1) := by decide +kernel
theorem dX8_valueTo_148 : decode cX8_valueTo 148 = .ok (.getfield 38, 3) := by decide +kernel
theorem dX8_valueTo_151 : decode cX8_valueTo 151 = .ok (.iload_n 2, 1) := by decide +kernel
theorem dX8_valueTo_152 : decode cX8_valueTo 152 = .ok (.iaload, 1) := by decide +kernel
theorem dX8_valueTo_153 : decode cX8_valueTo 153 = .ok (.bipush 16, 2) := by decide +kernel
theorem dX8_valueTo_155 : decode cX8_valueTo 155 = .ok (.sipush 128, 3) := by decide +kernel
theorem dX8_valueTo_158 : decode cX8_valueTo 158 = .ok (.iconst 0, 1) := by decide +kernel
theorem dX8_valueTo_159 : decode cX8_valueTo 159 = .ok (.sipush 222, 3) := by decide +kernel
theorem dX8_valueTo_162 : decode cX8_valueTo 162 = .ok (.sipush 223, 3) := by decide +kernel
theorem dX8_valueTo_165 : decode cX8_valueTo 165 = .ok (.invokevirtual 225, 3) := by decide +kernel
theorem dX8_valueTo_168 : decode cX8_valueTo 168 = .ok (.aload_n 0, 1) := by decide +kernel
theorem dX8_valueTo_169 : decode cX8_valueTo 169 = .ok (.getfield 62, 3) := by decide +kernel
theorem dX8_valueTo_172 : decode cX8_valueTo 172 = .ok (.aload_n 0, 1) := by decide +kernel
theorem dX8_valueTo_173 : decode cX8_valueTo 173 = .ok (.getfield 186, 3) := by decide +kernel
theorem dX8_valueTo_176 : decode cX8_valueTo 176 = .ok (.iload_n 2, 1) := by decide +kernel
theorem dX8_valueTo_177 : decode cX8_valueTo 177 = .ok (.iastore, 1) := by decide +kernel
theorem dX8_valueTo_178 : decode cX8_valueTo 178 = .ok (.aload_n 0, 1) := by decide +kernel
theorem dX8_valueTo_179 : decode cX8_valueTo 179 = .ok (.getfield 65, 3) := by decide +kernel
theorem dX8_valueTo_182 : decode cX8_valueTo 182 = .ok (.aload_n 0, 1) := by decide +kernel
theorem dX8_valueTo_183 : decode cX8_valueTo 183 = .ok (.getfield 186, 3) := by decide +kernel
theorem dX8_valueTo_186 : decode cX8_valueTo 186 = .ok (.aload_n 0, 1) := by decide +kernel
theorem dX8_valueTo_187 : decode cX8_valueTo 187 = .ok (.getfield 32, 3) := by decide +kernel
theorem dX8_valueTo_190 : decode cX8_valueTo 190 = .ok (.iload_n 2, 1) := by decide +kernel
theorem dX8_valueTo_191 : decode cX8_valueTo 191 = .ok (.iaload, 1) := by decide +kernel
theorem dX8_valueTo_192 : decode cX8_valueTo 192 = .ok (.i2l, 1) := by decide +kernel
theorem dX8_valueTo_193 : decode cX8_valueTo 193 = .ok (.lastore, 1) := by decide +kernel
theorem dX8_valueTo_194 : decode cX8_valueTo 194 = .ok (.aload_n 0, 1) := by decide +kernel
theorem dX8_valueTo_195 : decode cX8_valueTo 195 = .ok (.dup, 1) := by decide +kernel
theorem dX8_valueTo_196 : decode cX8_valueTo 196 = .ok (.getfield 186, 3) := by decide +kernel
theorem dX8_valueTo_199 : decode cX8_valueTo 199 = .ok (.iconst 1, 1) := by decide +kernel
theorem dX8_valueTo_200 : decode cX8_valueTo 200 = .ok (.iadd, 1) := by decide +kernel
theorem dX8_valueTo_201 : decode cX8_valueTo 201 = .ok (.putfield 186, 3) := by decide +kernel
theorem dX8_valueTo_204 : decode cX8_valueTo 204 = .ok (.aload_n 0, 1) := by decide +kernel
theorem dX8_valueTo_205 : decode cX8_valueTo 205 = .ok (.getfield 205, 3) := by decide +kernel
theorem dX8_valueTo_208 : decode cX8_valueTo 208 = .ok (.ifCond .ne 7, 3) := by decide +kernel
theorem dX8_valueTo_211 : decode cX8_valueTo 211 = .ok (.iconst 1, 1) := by decide +kernel
theorem dX8_valueTo_212 : decode cX8_valueTo 212 = .ok (.goto 4, 3) := by decide +kernel
theorem dX8_valueTo_215 : decode cX8_valueTo 215 = .ok (.iconst 0, 1) := by decide +kernel
theorem dX8_valueTo_216 : decode cX8_valueTo 216 = .ok (.ireturn, 1) := by decide +kernel
theorem dX8_packTo_0 : decode cX8_packTo 0 = .ok (.aload_n 0, 1) := by decide +kernel
theorem dX8_packTo_1 : decode cX8_packTo 1 = .ok (.iconst 0, 1) := by decide +kernel
theorem dX8_packTo_2 : decode cX8_packTo 2 = .ok (.putfield 202, 3) := by decide +kernel
theorem dX8_packTo_5 : decode cX8_packTo 5 = .ok (.aload_n 0, 1) := by decide +kernel
theorem dX8_packTo_6 : decode cX8_packTo 6 = .ok (.iconst 0, 1) := by decide +kernel
theorem dX8_packTo_7 : decode cX8_packTo 7 = .ok (.putfield 205, 3) := by decide +kernel
theorem dX8_packTo_10 : decode cX8_packTo 10 = .ok (.aload_n 0, 1) := by decide +kernel
theorem dX8_packTo_11 : decode cX8_packTo 11 = .ok (.iconst 0, 1) := by decide +kernel
theorem dX8_packTo_12 : decode cX8_packTo 12 = .ok (.putfield 253, 3) := by decide +kernel
theorem dX8_packTo_15 : decode cX8_packTo 15 = .ok (.aload_n 0, 1) := by decide +kernel
theorem dX8_packTo_16 : decode cX8_packTo 16 = .ok (.dup, 1) := by decide +kernel
theorem dX8_packTo_17 : decode cX8_packTo 17 = .ok (.getfield 250, 3) := by decide +kernel
theorem dX8_packTo_20 : decode cX8_packTo 20 = .ok (.iconst 1, 1) := by decide +kernel
theorem dX8_packTo_21 : decode cX8_packTo 21 = .ok (.iadd, 1) := by decide +kernel
theorem dX8_packTo_22 : decode cX8_packTo 22 = .ok (.putfield 250, 3) := by decide +kernel
theorem dX8_packTo_25 : decode cX8_packTo 25 = .ok (.aload_n 0, 1) := by decide +kernel
theorem dX8_packTo_26 : decode cX8_packTo 26 = .ok (.iconst 0, 1) := by decide +kernel
theorem dX8_packTo_27 : decode cX8_packTo 27 = .ok (.putfield 186, 3) := by decide +kernel
theorem dX8_packTo_30 : decode cX8_packTo 30 = .ok (.aload_n 0, 1) := by decide +kernel
theorem dX8_packTo_31 : decode cX8_packTo 31 = .ok (.aload_n 1, 1) := by decide +kernel
theorem dX8_packTo_32 : decode cX8_packTo 32 = .ok (.iload_n 2, 1) := by decide +kernel
theorem dX8_packTo_33 : decode cX8_packTo 33 = .ok (.invokevirtual 256, 3) := by decide +kernel
theorem dX8_packTo_36 : decode cX8_packTo 36 = .ok (.istore_n 3, 1) := by decide +kernel
theorem dX8_packTo_37 : decode cX8_packTo 37 = .ok (.iload_n 3, 1) := by decide +kernel
theorem dX8_packTo_38 : decode cX8_packTo 38 = .ok (.ifCond .eq 77, 3) := by decide +kernel
theorem dX8_packTo_41 : decode cX8_packTo 41 = .ok (.aload_n 0, 1) := by decide +kernel
theorem dX8_packTo_42 : decode cX8_packTo 42 = .ok (.getfield 186, 3) := by decide +kernel
theorem dX8_packTo_45 : decode cX8_packTo 45 = .ok (.ifCond .le 70, 3) := by decide +kernel
theorem dX8_packTo_48 : decode cX8_packTo 48 = .ok (.aload_n 0, 1) := by decide +kernel
theorem dX8_packTo_49 : decode cX8_packTo 49 = .ok (.getfield 65, 3) := by decide +kernel
theorem dX8_packTo_52 : decode cX8_packTo 52 = .ok (.aload_n 0, 1) := by decide +kernel
theorem dX8_packTo_53 : decode cX8_packTo 53 = .ok (.getfield 186, 3) := by decide +kernel
theorem dX8_packTo_56 : decode cX8_packTo 56 = .ok (.iconst 1, 1) := by decide +kernel
theorem dX8_packTo_57 : decode cX8_packTo 57 = .ok (.isub, 1) := by decide +kernel
theorem dX8_packTo_58 : decode cX8_packTo 58 = .ok (.laload, 1) := by decide +kernel
theorem dX8_packTo_59 : decode cX8_packTo 59 = .ok (.l2i, 1) := by decide +kernel
theorem dX8_packTo_60 : decode cX8_packTo 60 = .ok (.istore 4, 2) := by decide +kernel
theorem dX8_packTo_62 : decode cX8_packTo 62 = .ok (.iload 4, 2) := by decide +kernel
theorem dX8_packTo_64 : decode cX8_packTo 64 = .ok (.ifCond .ge 16, 3) := by decide +kernel
theorem dX8_packTo_67 : decode cX8_packTo 67 = .ok (.aload_n 0, 1) := by decide +kernel
theorem dX8_packTo_68 : decode cX8_packTo 68 = .ok (.dup, 1) := by decide +kernel
theorem dX8_packTo_69 : decode cX8_packTo 69 = .ok (.getfield 186, 3) := by decide +kernel
theorem dX8_packTo_72 : decode cX8_packTo 72 = .ok (.iconst 1, 1) := by decide +kernel
theorem dX8_packTo_73 : decode cX8_packTo 73 = .ok (.isub, 1) := by decide +kernel
theorem dX8_packTo_74 : decode cX8_packTo 74 = .ok (.putfield 186, 3) := by decide +kernel
theorem dX8_packTo_77 : decode cX8_packTo 77 = .ok (.goto 35, 3) := by decide +kernel
theorem dX8_packTo_80 : decode cX8_packTo 80 = .ok (.aload_n 0, 1) := by decide +kernel
theorem dX8_packTo_81 : decode cX8_packTo 81 = .ok (.getfield 65, 3) := by decide +kernel
theorem dX8_packTo_84 : decode cX8_packTo 84 = .ok (.aload_n 0, 1) := by decide +kernel
theorem dX8_packTo_85 : decode cX8_packTo 85 = .ok (.getfield 186, 3) := by decide +kernel
theorem dX8_packTo_88 : decode cX8_packTo 88 = .ok (.iconst 1, 1) := by decide +kernel
theorem dX8_packTo_89 : decode cX8_packTo 89 = .ok (.isub, 1) := by decide +kernel
theorem dX8_packTo_90 : decode cX8_packTo 90 = .ok (.aload_n 0, 1) := by decide +kernel
theorem dX8_packTo_91 : decode cX8_packTo 91 = .ok (.getfield 44, 3) := by decide +kernel
theorem dX8_packTo_94 : decode cX8_packTo 94 = .ok (.iload 4, 2) := by decide +kernel
theorem dX8_packTo_96 : decode cX8_packTo 96 = .ok (.iaload, 1) := by decide +kernel
theorem dX8_packTo_97 : decode cX8_packTo 97 = .ok (.i2l, 1) := by decide +kernel
theorem dX8_packTo_98 : decode cX8_packTo 98 = .ok (.lastore, 1) := by decide +kernel
theorem dX8_packTo_99 : decode cX8_packTo 99 = .ok (.aload_n 0, 1) := by decide +kernel
theorem dX8_packTo_100 : decode cX8_packTo 100 = .ok (.aload_n 1, 1) := by decide +kernel
theorem dX8_packTo_101 : decode cX8_packTo 101 = .ok (.aload_n 0, 1) := by decide +kernel
theorem dX8_packTo_102 : decode cX8_packTo 102 = .ok (.getfield 41, 3) := by decide +kernel
theorem dX8_packTo_105 : decode cX8_packTo 105 = .ok (.iload 4, 2) := by decide +kernel
theorem dX8_packTo_107 : decode cX8_packTo 107 = .ok (.iaload, 1) := by decide +kernel
theorem dX8_packTo_108 : decode cX8_packTo 108 = .ok (.invokevirtual 256, 3) := by decide +kernel
theorem dX8_packTo_111 : decode cX8_packTo 111 = .ok (.istore_n 3, 1) := by decide +kernel
theorem dX8_packTo_112 : decode cX8_packTo 112 = .ok (.goto (-75), 3) := by decide +kernel
theorem dX8_packTo_115 : decode cX8_packTo 115 = .ok (.iload_n 3, 1) := by decide +kernel
theorem dX8_packTo_116 : decode cX8_packTo 116 = .ok (.ireturn, 1) := by decide +kernel
theorem dX8_pack_0 : decode cX8_pack 0 = .ok (.aload_n 0, 1) := by decide +kernel
theorem dX8_pack_1 : decode cX8_pack 1 = .ok (.aload_n 0, 1) := by decide +kernel
theorem dX8_pack_2 : decode cX8_pack 2 = .ok (.iload_n 1, 1) := by decide +kernel
theorem dX8_pack_3 : decode cX8_pack 3 = .ok (.invokevirtual 131, 3) := by decide +kernel
theorem dX8_pack_6 : decode cX8_pack 6 = .ok (.ifCond .eq 7, 3) := by decide +kernel
theorem dX8_pack_9 : decode cX8_pack 9 = .ok (.iconst 0, 1) := by decide +kernel
theorem dX8_pack_10 : decode cX8_pack 10 = .ok (.goto 4, 3) := by decide +kernel
theorem dX8_pack_13 : decode cX8_pack 13 = .ok (.iconst 1, 1) := by decide +kernel
theorem dX8_pack_14 : decode cX8_pack 14 = .ok (.putfield 71, 3) := by decide +kernel
theorem dX8_pack_17 : decode cX8_pack 17 = .ok (.aload_n 0, 1) := by decide +kernel
theorem dX8_pack_18 : decode cX8_pack 18 = .ok (.getfield 71, 3) := by decide +kernel
theorem dX8_pack_21 : decode cX8_pack 21 = .ok (.ifCond .le 5, 3) := by decide +kernel
theorem dX8_pack_24 : decode cX8_pack 24 = .ok (.iconst 0, 1) := by decide +kernel
theorem dX8_pack_25 : decode cX8_pack 25 = .ok (.ireturn, 1) := by decide +kernel
theorem dX8_pack_26 : decode cX8_pack 26 = .ok (.aload_n 0, 1) := by decide +kernel
theorem dX8_pack_27 : decode cX8_pack 27 = .ok (.aload_n 0, 1) := by decide +kernel
theorem dX8_pack_28 : decode cX8_pack 28 = .ok (.getfield 14, 3) := by decide +kernel
theorem dX8_pack_31 : decode cX8_pack 31 = .ok (.iload_n 1, 1) := by decide +kernel
theorem dX8_pack_32 : decode cX8_pack 32 = .ok (.invokevirtual 260, 3) := by decide +kernel
theorem dX8_pack_35 : decode cX8_pack 35 = .ok (.istore_n 2, 1) := by decide +kernel
theorem dX8_pack_36 : decode cX8_pack 36 = .ok (.aload_n 0, 1) := by decide +kernel
theorem dX8_pack_37 : decode cX8_pack 37 = .ok (.iload_n 2, 1) := by decide +kernel
theorem dX8_pack_38 : decode cX8_pack 38 = .ok (.ifCond .eq 10, 3) := by decide +kernel
theorem dX8_pack_41 : decode cX8_pack 41 = .ok (.aload_n 0, 1) := by decide +kernel
theorem dX8_pack_42 : decode cX8_pack 42 = .ok (.getfield 202, 3) := by decide +kernel
theorem dX8_pack_45 : decode cX8_pack 45 = .ok (.goto 4, 3) := by decide +kernel
theorem dX8_pack_48 : decode cX8_pack 48 = .ok (.iconst 0, 1) := by decide +kernel
theorem dX8_pack_49 : decode cX8_pack 49 = .ok (.putfield 263, 3) := by decide +kernel
theorem dX8_pack_52 : decode cX8_pack 52 = .ok (.aload_n 0, 1) := by decide +kernel
theorem dX8_pack_53 : decode cX8_pack 53 = .ok (.iload_n 2, 1) := by decide +kernel
theorem dX8_pack_54 : decode cX8_pack 54 = .ok (.ifCond .eq 7, 3) := by decide +kernel
theorem dX8_pack_57 : decode cX8_pack 57 = .ok (.iconst 0, 1) := by decide +kernel
theorem dX8_pack_58 : decode cX8_pack 58 = .ok (.goto 4, 3) := by decide +kernel
theorem dX8_pack_61 : decode cX8_pack 61 = .ok (.iconst 2, 1) := by decide +kernel
theorem dX8_pack_62 : decode cX8_pack 62 = .ok (.putfield 71, 3) := by decide +kernel
theorem dX8_pack_65 : decode cX8_pack 65 = .ok (.aload_n 0, 1) := by decide +kernel
theorem dX8_pack_66 : decode cX8_pack 66 = .ok (.getfield 263, 3) := by decide +kernel
theorem dX8_pack_69 : decode cX8_pack 69 = .ok (.ireturn, 1) := by decide +kernel
theorem dX8_shown_0 : decode cX8_shown 0 = .ok (.aload_n 0, 1) := by decide +kernel
theorem dX8_shown_1 : decode cX8_shown 1 = .ok (.iload_n 1, 1) := by decide +kernel
theorem dX8_shown_2 : decode cX8_shown 2 = .ok (.ifCond .lt 15, 3) := by decide +kernel
theorem dX8_shown_5 : decode cX8_shown 5 = .ok (.iload_n 1, 1) := by decide +kernel
theorem dX8_shown_6 : decode cX8_shown 6 = .ok (.aload_n 0, 1) := by decide +kernel
theorem dX8_shown_7 : decode cX8_shown 7 = .ok (.getfield 263, 3) := by decide +kernel
theorem dX8_shown_10 : decode cX8_shown 10 = .ok (.if_icmp .ge 7, 3) := by decide +kernel
theorem dX8_shown_13 : decode cX8_shown 13 = .ok (.iconst 0, 1) := by decide +kernel
theorem dX8_shown_14 : decode cX8_shown 14 = .ok (.goto 4, 3) := by decide +kernel
theorem dX8_shown_17 : decode cX8_shown 17 = .ok (.iconst 1, 1) := by decide +kernel
theorem dX8_shown_18 : decode cX8_shown 18 = .ok (.putfield 71, 3) := by decide +kernel
theorem dX8_shown_21 : decode cX8_shown 21 = .ok (.aload_n 0, 1) := by decide +kernel
theorem dX8_shown_22 : decode cX8_shown 22 = .ok (.getfield 71, 3) := by decide +kernel
theorem dX8_shown_25 : decode cX8_shown 25 = .ok (.ifCond .le 7, 3) := by decide +kernel
theorem dX8_shown_28 : decode cX8_shown 28 = .ok (.iconst 0, 1) := by decide +kernel
theorem dX8_shown_29 : decode cX8_shown 29 = .ok (.goto 13, 3) := by decide +kernel
theorem dX8_shown_32 : decode cX8_shown 32 = .ok (.aload_n 0, 1) := by decide +kernel
theorem dX8_shown_33 : decode cX8_shown 33 = .ok (.getfield 14, 3) := by decide +kernel
theorem dX8_shown_36 : decode cX8_shown 36 = .ok (.iload_n 1, 1) := by decide +kernel
theorem dX8_shown_37 : decode cX8_shown 37 = .ok (.baload, 1) := by decide +kernel
theorem dX8_shown_38 : decode cX8_shown 38 = .ok (.sipush 255, 3) := by decide +kernel
theorem dX8_shown_41 : decode cX8_shown 41 = .ok (.iand, 1) := by decide +kernel
theorem dX8_shown_42 : decode cX8_shown 42 = .ok (.ireturn, 1) := by decide +kernel
theorem dX8_isSamePacked_0 : decode cX8_isSamePacked 0 = .ok (.iload_n 1, 1) := by decide +kernel
theorem dX8_isSamePacked_1 : decode cX8_isSamePacked 1 = .ok (.iload_n 2, 1) := by decide +kernel
theorem dX8_isSamePacked_2 : decode cX8_isSamePacked 2 = .ok (.if_icmp .ne 7, 3) := by decide +kernel
theorem dX8_isSamePacked_5 : decode cX8_isSamePacked 5 = .ok (.iconst 1, 1) := by decide +kernel
theorem dX8_isSamePacked_6 : decode cX8_isSamePacked 6 = .ok (.goto 4, 3) := by decide +kernel
theorem dX8_isSamePacked_9 : decode cX8_isSamePacked 9 = .ok (.iconst 0, 1) := by decide +kernel
theorem dX8_isSamePacked_10 : decode cX8_isSamePacked 10 = .ok (.istore_n 3, 1) := by decide +kernel
theorem dX8_isSamePacked_11 : decode cX8_isSamePacked 11 = .ok (.iconst 0, 1) := by decide +kernel
theorem dX8_isSamePacked_12 : decode cX8_isSamePacked 12 = .ok (.istore 4, 2) := by decide +kernel
theorem dX8_isSamePacked_14 : decode cX8_isSamePacked 14 = .ok (.iload 4, 2) := by decide +kernel
theorem dX8_isSamePacked_16 : decode cX8_isSamePacked 16 = .ok (.iload_n 1, 1) := by decide +kernel
theorem dX8_isSamePacked_17 : decode cX8_isSamePacked 17 = .ok (.if_icmp .ge 36, 3) := by decide +kernel
theorem dX8_isSamePacked_20 : decode cX8_isSamePacked 20 = .ok (.iload_n 3, 1) := by decide +kernel
theorem dX8_isSamePacked_21 : decode cX8_isSamePacked 21 = .ok (.ifCond .eq 32, 3) := by decide +kernel
theorem dX8_isSamePacked_24 : decode cX8_isSamePacked 24 = .ok (.aload_n 0, 1) := by decide +kernel
theorem dX8_isSamePacked_25 : decode cX8_isSamePacked 25 = .ok (.getfield 50, 3) := by decide +kernel
theorem dX8_isSamePacked_28 : decode cX8_isSamePacked 28 = .ok (.iload 4, 2) := by decide +kernel
theorem dX8_isSamePacked_30 : decode cX8_isSamePacked 30 = .ok (.baload, 1) := by decide +kernel
theorem dX8_isSamePacked_31 : decode cX8_isSamePacked 31 = .ok (.aload_n 0, 1) := by decide +kernel
theorem dX8_isSamePacked_32 : decode cX8_isSamePacked 32 = .ok (.getfield 53, 3) := by decide +kernel
theorem dX8_isSamePacked_35 : decode cX8_isSamePacked 35 = .ok (.iload 4, 2) := by decide +kernel
theorem dX8_isSamePacked_37 : decode cX8_isSamePacked 37 = .ok (.baload, 1) := by decide +kernel
theorem dX8_isSamePacked_38 : decode cX8_isSamePacked 38 = .ok (.if_icmp .ne 7, 3) := by decide +kernel
theorem dX8_isSamePacked_41 : decode cX8_isSamePacked 41 = .ok (.iconst 1, 1) := by decide +kernel
theorem dX8_isSamePacked_42 : decode cX8_isSamePacked 42 = .ok (.goto 4, 3) := by decide +kernel
theorem dX8_isSamePacked_45 : decode cX8_isSamePacked 45 = .ok (.iconst 0, 1) := by decide +kernel
theorem dX8_isSamePacked_46 : decode cX8_isSamePacked 46 = .ok (.istore_n 3, 1) := by decide +kernel
theorem dX8_isSamePacked_47 : decode cX8_isSamePacked 47 = .ok (.iinc 4 1, 3) := by decide +kernel
theorem dX8_isSamePacked_50 : decode cX8_isSamePacked 50 = .ok (.goto (-36), 3) := by decide +kernel
theorem dX8_isSamePacked_53 : decode cX8_isSamePacked 53 = .ok (.iload_n 3, 1) := by decide +kernel
theorem dX8_isSamePacked_54 : decode cX8_isSamePacked 54 = .ok (.ireturn, 1) := by decide +kernel
theorem dX8_same_0 : decode cX8_same 0 = .ok (.aload_n 0, 1) := by decide +kernel
theorem dX8_same_1 : decode cX8_same 1 = .ok (.aload_n 0, 1) := by decide +kernel
theorem dX8_same_2 : decode cX8_same 2 = .ok (.iload_n 1, 1) := by decide +kernel
theorem dX8_same_3 : decode cX8_same 3 = .ok (.invokevirtual 131, 3) := by decide +kernel
theorem dX8_same_6 : decode cX8_same 6 = .ok (.ifCond .eq 15, 3) := by decide +kernel
theorem dX8_same_9 : decode cX8_same 9 = .ok (.aload_n 0, 1) := by decide +kernel
theorem dX8_same_10 : decode cX8_same 10 = .ok (.iload_n 2, 1) := by decide +kernel
theorem dX8_same_11 : decode cX8_same 11 = .ok (.invokevirtual 131, 3) := by decide +kernel
theorem dX8_same_14 : decode cX8_same 14 = .ok (.ifCond .eq 7, 3) := by decide +kernel
theorem dX8_same_17 : decode cX8_same 17 = .ok (.iconst 0, 1) := by decide +kernel
theorem dX8_same_18 : decode cX8_same 18 = .ok (.goto 4, 3) := by decide +kernel
theorem dX8_same_21 : decode cX8_same 21 = .ok (.iconst 1, 1) := by decide +kernel
theorem dX8_same_22 : decode cX8_same 22 = .ok (.putfield 71, 3) := by decide +kernel
theorem dX8_same_25 : decode cX8_same 25 = .ok (.aload_n 0, 1) := by decide +kernel
theorem dX8_same_26 : decode cX8_same 26 = .ok (.getfield 71, 3) := by decide +kernel
theorem dX8_same_29 : decode cX8_same 29 = .ok (.ifCond .le 5, 3) := by decide +kernel
theorem dX8_same_32 : decode cX8_same 32 = .ok (.iconst 0, 1) := by decide +kernel
theorem dX8_same_33 : decode cX8_same 33 = .ok (.ireturn, 1) := by decide +kernel
theorem dX8_same_34 : decode cX8_same 34 = .ok (.aload_n 0, 1) := by decide +kernel
theorem dX8_same_35 : decode cX8_same 35 = .ok (.aload_n 0, 1) := by decide +kernel
theorem dX8_same_36 : decode cX8_same 36 = .ok (.getfield 50, 3) := by decide +kernel
theorem dX8_same_39 : decode cX8_same 39 = .ok (.iload_n 1, 1) := by decide +kernel
theorem dX8_same_40 : decode cX8_same 40 = .ok (.invokevirtual 260, 3) := by decide +kernel
theorem dX8_same_43 : decode cX8_same 43 = .ok (.istore_n 3, 1) := by decide +kernel
theorem dX8_same_44 : decode cX8_same 44 = .ok (.aload_n 0, 1) := by decide +kernel
theorem dX8_same_45 : decode cX8_same 45 = .ok (.getfield 202, 3) := by decide +kernel
theorem dX8_same_48 : decode cX8_same 48 = .ok (.istore 4, 2) := by decide +kernel
theorem dX8_same_50 : decode cX8_same 50 = .ok (.aload_n 0, 1) := by decide +kernel
theorem dX8_same_51 : decode cX8_same 51 = .ok (.aload_n 0, 1) := by decide +kernel
theorem dX8_same_52 : decode cX8_same 52 = .ok (.getfield 53, 3) := by decide +kernel
theorem dX8_same_55 : decode cX8_same 55 = .ok (.iload_n 2, 1) := by decide +kernel
theorem dX8_same_56 : decode cX8_same 56 = .ok (.invokevirtual 260, 3) := by decide +kernel
theorem dX8_same_59 : decode cX8_same 59 = .ok (.istore 5, 2) := by decide +kernel
theorem dX8_same_61 : decode cX8_same 61 = .ok (.aload_n 0, 1) := by decide +kernel
theorem dX8_same_62 : decode cX8_same 62 = .ok (.iload_n 3, 1) := by decide +kernel
theorem dX8_same_63 : decode cX8_same 63 = .ok (.ifCond .eq 12, 3) := by decide +kernel
theorem dX8_same_66 : decode cX8_same 66 = .ok (.iload 5, 2) := by decide +kernel
theorem dX8_same_68 : decode cX8_same 68 = .ok (.ifCond .eq 7, 3) := by decide +kernel
theorem dX8_same_71 : decode cX8_same 71 = .ok (.iconst 0, 1) := by decide +kernel
theorem dX8_same_72 : decode cX8_same 72 = .ok (.goto 4, 3) := by decide +kernel
theorem dX8_same_75 : decode cX8_same 75 = .ok (.iconst 2, 1) := by decide +kernel
theorem dX8_same_76 : decode cX8_same 76 = .ok (.putfield 71, 3) := by decide +kernel
theorem dX8_same_79 : decode cX8_same 79 = .ok (.aload_n 0, 1) := by decide +kernel
theorem dX8_same_80 : decode cX8_same 80 = .ok (.getfield 71, 3) := by decide +kernel
theorem dX8_same_83 : decode cX8_same 83 = .ok (.ifCond .ne 20, 3) := by decide +kernel
theorem dX8_same_86 : decode cX8_same 86 = .ok (.aload_n 0, 1) := by decide +kernel
theorem dX8_same_87 : decode cX8_same 87 = .ok (.iload 4, 2) := by decide +kernel
theorem dX8_same_89 : decode cX8_same 89 = .ok (.aload_n 0, 1) := by decide +kernel
theorem dX8_same_90 : decode cX8_same 90 = .ok (.getfield 202, 3) := by decide +kernel
theorem dX8_same_93 : decode cX8_same 93 = .ok (.invokevirtual 266, 3) := by decide +kernel
theorem dX8_same_96 : decode cX8_same 96 = .ok (.ifCond .eq 7, 3) := by decide +kernel
theorem dX8_same_99 : decode cX8_same 99 = .ok (.iconst 1, 1) := by decide +kernel
theorem dX8_same_100 : decode cX8_same 100 = .ok (.goto 4, 3) := by decide +kernel
theorem dX8_same_103 : decode cX8_same 103 = .ok (.iconst 0, 1) := by decide +kernel
theorem dX8_same_104 : decode cX8_same 104 = .ok (.ireturn, 1) := by decide +kernel
theorem dX8_find_0 : decode cX8_find 0 = .ok (.aload_n 0, 1) := by decide +kernel
theorem dX8_find_1 : decode cX8_find 1 = .ok (.aload_n 0, 1) := by decide +kernel
theorem dX8_find_2 : decode cX8_find 2 = .ok (.iload_n 1, 1) := by decide +kernel
theorem dX8_find_3 : decode cX8_find 3 = .ok (.invokevirtual 131, 3) := by decide +kernel
theorem dX8_find_6 : decode cX8_find 6 = .ok (.ifCond .eq 11, 3) := by decide +kernel
theorem dX8_find_9 : decode cX8_find 9 = .ok (.aload_n 0, 1) := by decide +kernel
theorem dX8_find_10 : decode cX8_find 10 = .ok (.iload_n 2, 1) := by decide +kernel
theorem dX8_find_11 : decode cX8_find 11 = .ok (.invokevirtual 131, 3) := by decide +kernel
theorem dX8_find_14 : decode cX8_find 14 = .ok (.ifCond .ne 7, 3) := by decide +kernel
theorem dX8_find_17 : decode cX8_find 17 = .ok (.iconst 1, 1) := by decide +kernel
theorem dX8_find_18 : decode cX8_find 18 = .ok (.goto 35, 3) := by decide +kernel
theorem dX8_find_21 : decode cX8_find 21 = .ok (.aload_n 0, 1) := by decide +kernel
theorem dX8_find_22 : decode cX8_find 22 = .ok (.getfield 17, 3) := by decide +kernel
theorem dX8_find_25 : decode cX8_find 25 = .ok (.iload_n 1, 1) := by decide +kernel
theorem dX8_find_26 : decode cX8_find 26 = .ok (.iaload, 1) := by decide +kernel
theorem dX8_find_27 : decode cX8_find 27 = .ok (.bipush 8, 2) := by decide +kernel
theorem dX8_find_29 : decode cX8_find 29 = .ok (.if_icmp .eq 7, 3) := by decide +kernel
theorem dX8_find_32 : decode cX8_find 32 = .ok (.iconst 2, 1) := by decide +kernel
theorem dX8_find_33 : decode cX8_find 33 = .ok (.goto 20, 3) := by decide +kernel
theorem dX8_find_36 : decode cX8_find 36 = .ok (.aload_n 0, 1) := by decide +kernel
theorem dX8_find_37 : decode cX8_find 37 = .ok (.aload_n 0, 1) := by decide +kernel
theorem dX8_find_38 : decode cX8_find 38 = .ok (.getfield 50, 3) := by decide +kernel
theorem dX8_find_41 : decode cX8_find 41 = .ok (.iload_n 2, 1) := by decide +kernel
theorem dX8_find_42 : decode cX8_find 42 = .ok (.invokevirtual 260, 3) := by decide +kernel
theorem dX8_find_45 : decode cX8_find 45 = .ok (.ifCond .ne 7, 3) := by decide +kernel
theorem dX8_find_48 : decode cX8_find 48 = .ok (.iconst 3, 1) := by decide +kernel
theorem dX8_find_49 : decode cX8_find 49 = .ok (.goto 4, 3) := by decide +kernel
theorem dX8_find_52 : decode cX8_find 52 = .ok (.iconst 0, 1) := by decide +kernel
theorem dX8_find_53 : decode cX8_find 53 = .ok (.putfield 71, 3) := by decide +kernel
theorem dX8_find_56 : decode cX8_find 56 = .ok (.aload_n 0, 1) := by decide +kernel
theorem dX8_find_57 : decode cX8_find 57 = .ok (.getfield 71, 3) := by decide +kernel
theorem dX8_find_60 : decode cX8_find 60 = .ok (.ifCond .le 5, 3) := by decide +kernel
theorem dX8_find_63 : decode cX8_find 63 = .ok (.iconst 0, 1) := by decide +kernel
theorem dX8_find_64 : decode cX8_find 64 = .ok (.ireturn, 1) := by decide +kernel
theorem dX8_find_65 : decode cX8_find 65 = .ok (.aload_n 0, 1) := by decide +kernel
theorem dX8_find_66 : decode cX8_find 66 = .ok (.getfield 202, 3) := by decide +kernel
theorem dX8_find_69 : decode cX8_find 69 = .ok (.istore_n 3, 1) := by decide +kernel
theorem dX8_find_70 : decode cX8_find 70 = .ok (.aload_n 0, 1) := by decide +kernel
theorem dX8_find_71 : decode cX8_find 71 = .ok (.getfield 32, 3) := by decide +kernel
theorem dX8_find_74 : decode cX8_find 74 = .ok (.iload_n 1, 1) := by decide +kernel
theorem dX8_find_75 : decode cX8_find 75 = .ok (.iaload, 1) := by decide +kernel
theorem dX8_find_76 : decode cX8_find 76 = .ok (.istore 4, 2) := by decide +kernel
theorem dX8_find_78 : decode cX8_find 78 = .ok (.iload 4, 2) := by decide +kernel
theorem dX8_find_80 : decode cX8_find 80 = .ok (.ifCond .lt 63, 3) := by decide +kernel
theorem dX8_find_83 : decode cX8_find 83 = .ok (.aload_n 0, 1) := by decide +kernel
theorem dX8_find_84 : decode cX8_find 84 = .ok (.aload_n 0, 1) := by decide +kernel
theorem dX8_find_85 : decode cX8_find 85 = .ok (.getfield 53, 3) := by decide +kernel
theorem dX8_find_88 : decode cX8_find 88 = .ok (.aload_n 0, 1) := by decide +kernel
theorem dX8_find_89 : decode cX8_find 89 = .ok (.getfield 41, 3) := by decide +kernel
theorem dX8_find_92 : decode cX8_find 92 = .ok (.iload 4, 2) := by decide +kernel
theorem dX8_find_94 : decode cX8_find 94 = .ok (.iaload, 1) := by decide +kernel
theorem dX8_find_95 : decode cX8_find 95 = .ok (.invokevirtual 260, 3) := by decide +kernel
theorem dX8_find_98 : decode cX8_find 98 = .ok (.ifCond .eq 28, 3) := by decide +kernel
theorem dX8_find_101 : decode cX8_find 101 = .ok (.aload_n 0, 1) := by decide +kernel
theorem dX8_find_102 : decode cX8_find 102 = .ok (.iload_n 3, 1) := by decide +kernel
theorem dX8_find_103 : decode cX8_find 103 = .ok (.aload_n 0, 1) := by decide +kernel
theorem dX8_find_104 : decode cX8_find 104 = .ok (.getfield 202, 3) := by decide +kernel
theorem dX8_find_107 : decode cX8_find 107 = .ok (.invokevirtual 266, 3) := by decide +kernel
theorem dX8_find_110 : decode cX8_find 110 = .ok (.ifCond .eq 16, 3) := by decide +kernel
theorem dX8_find_113 : decode cX8_find 113 = .ok (.aload_n 0, 1) := by decide +kernel
theorem dX8_find_114 : decode cX8_find 114 = .ok (.getfield 41, 3) := by decide +kernel
theorem dX8_find_117 : decode cX8_find 117 = .ok (.aload_n 0, 1) := by decide +kernel
theorem dX8_find_118 : decode cX8_find 118 = .ok (.getfield 44, 3) := by decide +kernel
theorem dX8_find_121 : decode cX8_find 121 = .ok (.iload 4, 2) := by decide +kernel
theorem dX8_find_123 : decode cX8_find 123 = .ok (.iaload, 1) := by decide +kernel
theorem dX8_find_124 : decode cX8_find 124 = .ok (.iaload, 1) := by decide +kernel
theorem dX8_find_125 : decode cX8_find 125 = .ok (.ireturn, 1) := by decide +kernel
theorem dX8_find_126 : decode cX8_find 126 = .ok (.aload_n 0, 1) := by decide +kernel
theorem dX8_find_127 : decode cX8_find 127 = .ok (.getfield 44, 3) := by decide +kernel
theorem dX8_find_130 : decode cX8_find 130 = .ok (.aload_n 0, 1) := by decide +kernel
theorem dX8_find_131 : decode cX8_find 131 = .ok (.getfield 44, 3) := by decide +kernel
theorem dX8_find_134 : decode cX8_find 134 = .ok (.iload 4, 2) := by decide +kernel
theorem dX8_find_136 : decode cX8_find 136 = .ok (.iaload, 1) := by decide +kernel
theorem dX8_find_137 : decode cX8_find 137 = .ok (.iaload, 1) := by decide +kernel
theorem dX8_find_138 : decode cX8_find 138 = .ok (.istore 4, 2) := by decide +kernel
theorem dX8_find_140 : decode cX8_find 140 = .ok (.goto (-62), 3) := by decide +kernel
theorem dX8_find_143 : decode cX8_find 143 = .ok (.iconst (-1), 1) := by decide +kernel
theorem dX8_find_144 : decode cX8_find 144 = .ok (.ireturn, 1) := by decide +kernel
theorem dX8_feed_0 : decode cX8_feed 0 = .ok (.aload_n 0, 1) := by decide +kernel
theorem dX8_feed_1 : decode cX8_feed 1 = .ok (.aload_n 0, 1) := by decide +kernel
theorem dX8_feed_2 : decode cX8_feed 2 = .ok (.getfield 88, 3) := by decide +kernel
theorem dX8_feed_5 : decode cX8_feed 5 = .ok (.bipush 20, 2) := by decide +kernel
theorem dX8_feed_7 : decode cX8_feed 7 = .ok (.iadd, 1) := by decide +kernel
theorem dX8_feed_8 : decode cX8_feed 8 = .ok (.ldc 7, 2) := by decide +kernel
theorem dX8_feed_10 : decode cX8_feed 10 = .ok (.if_icmp .le 7, 3) := by decide +kernel
theorem dX8_feed_13 : decode cX8_feed 13 = .ok (.iconst 1, 1) := by decide +kernel
theorem dX8_feed_14 : decode cX8_feed 14 = .ok (.goto 4, 3) := by decide +kernel
theorem dX8_feed_17 : decode cX8_feed 17 = .ok (.iconst 0, 1) := by decide +kernel
theorem dX8_feed_18 : decode cX8_feed 18 = .ok (.putfield 71, 3) := by decide +kernel
theorem dX8_feed_21 : decode cX8_feed 21 = .ok (.aload_n 0, 1) := by decide +kernel
theorem dX8_feed_22 : decode cX8_feed 22 = .ok (.getfield 71, 3) := by decide +kernel
theorem dX8_feed_25 : decode cX8_feed 25 = .ok (.ifCond .le 5, 3) := by decide +kernel
theorem dX8_feed_28 : decode cX8_feed 28 = .ok (.iconst 0, 1) := by decide +kernel
theorem dX8_feed_29 : decode cX8_feed 29 = .ok (.ireturn, 1) := by decide +kernel
theorem dX8_feed_30 : decode cX8_feed 30 = .ok (.iconst 0, 1) := by decide +kernel
theorem dX8_feed_31 : decode cX8_feed 31 = .ok (.istore 6, 2) := by decide +kernel
theorem dX8_feed_33 : decode cX8_feed 33 = .ok (.iload 6, 2) := by decide +kernel
theorem dX8_feed_35 : decode cX8_feed 35 = .ok (.bipush 20, 2) := by decide +kernel
theorem dX8_feed_37 : decode cX8_feed 37 = .ok (.if_icmp .ge 83, 3) := by decide +kernel
theorem dX8_feed_40 : decode cX8_feed 40 = .ok (.iload 6, 2) := by decide +kernel
theorem dX8_feed_42 : decode cX8_feed 42 = .ok (.iconst 4, 1) := by decide +kernel
theorem dX8_feed_43 : decode cX8_feed 43 = .ok (.if_icmp .ge 7, 3) := by decide +kernel
theorem dX8_feed_46 : decode cX8_feed 46 = .ok (.iload_n 1, 1) := by decide +kernel
theorem dX8_feed_47 : decode cX8_feed 47 = .ok (.goto 39, 3) := by decide +kernel
theorem dX8_feed_50 : decode cX8_feed 50 = .ok (.iload 6, 2) := by decide +kernel
theorem dX8_feed_52 : decode cX8_feed 52 = .ok (.bipush 8, 2) := by decide +kernel
theorem dX8_feed_54 : decode cX8_feed 54 = .ok (.if_icmp .ge 7, 3) := by decide +kernel
theorem dX8_feed_57 : decode cX8_feed 57 = .ok (.iload_n 2, 1) := by decide +kernel
theorem dX8_feed_58 : decode cX8_feed 58 = .ok (.goto 28, 3) := by decide +kernel
theorem dX8_feed_61 : decode cX8_feed 61 = .ok (.iload 6, 2) := by decide +kernel
theorem dX8_feed_63 : decode cX8_feed 63 = .ok (.bipush 12, 2) := by decide +kernel
theorem dX8_feed_65 : decode cX8_feed 65 = .ok (.if_icmp .ge 7, 3) := by decide +kernel
theorem dX8_feed_68 : decode cX8_feed 68 = .ok (.iload_n 3, 1) := by decide +kernel
theorem dX8_feed_69 : decode cX8_feed 69 = .ok (.goto 17, 3) := by decide +kernel
theorem dX8_feed_72 : decode cX8_feed 72 = .ok (.iload 6, 2) := by decide +kernel
theorem dX8_feed_74 : decode cX8_feed 74 = .ok (.bipush 16, 2) := by decide +kernel
theorem dX8_feed_76 : decode cX8_feed 76 = .ok (.if_icmp .ge 8, 3) := by decide +kernel
theorem dX8_feed_79 : decode cX8_feed 79 = .ok (.iload 4, 2) := by decide +kernel
theorem dX8_feed_81 : decode cX8_feed 81 = .ok (.goto 5, 3) := by decide +kernel
theorem dX8_feed_84 : decode cX8_feed 84 = .ok (.iload 5, 2) := by decide +kernel
theorem dX8_feed_86 : decode cX8_feed 86 = .ok (.istore 7, 2) := by decide +kernel
theorem dX8_feed_88 : decode cX8_feed 88 = .ok (.aload_n 0, 1) := by decide +kernel
theorem dX8_feed_89 : decode cX8_feed 89 = .ok (.getfield 8, 3) := by decide +kernel
theorem dX8_feed_92 : decode cX8_feed 92 = .ok (.aload_n 0, 1) := by decide +kernel
theorem dX8_feed_93 : decode cX8_feed 93 = .ok (.getfield 88, 3) := by decide +kernel
theorem dX8_feed_96 : decode cX8_feed 96 = .ok (.iload 6, 2) := by decide +kernel
theorem dX8_feed_98 : decode cX8_feed 98 = .ok (.iadd, 1) := by decide +kernel
theorem dX8_feed_99 : decode cX8_feed 99 = .ok (.iload 7, 2) := by decide +kernel
theorem dX8_feed_101 : decode cX8_feed 101 = .ok (.bipush 24, 2) := by decide +kernel
theorem dX8_feed_103 : decode cX8_feed 103 = .ok (.bipush 8, 2) := by decide +kernel
theorem dX8_feed_105 : decode cX8_feed 105 = .ok (.iload 6, 2) := by decide +kernel
theorem dX8_feed_107 : decode cX8_feed 107 = .ok (.iconst 4, 1) := by decide +kernel
theorem dX8_feed_108 : decode cX8_feed 108 = .ok (.irem, 1) := by decide +kernel
theorem dX8_feed_109 : decode cX8_feed 109 = .ok (.imul, 1) := by decide +kernel
theorem dX8_feed_110 : decode cX8_feed 110 = .ok (.isub, 1) := by decide +kernel
theorem dX8_feed_111 : decode cX8_feed 111 = .ok (.ishr, 1) := by decide +kernel
theorem dX8_feed_112 : decode cX8_feed 112 = .ok (.i2b, 1) := by decide +kernel
theorem dX8_feed_113 : decode cX8_feed 113 = .ok (.bastore, 1) := by decide +kernel
theorem dX8_feed_114 : decode cX8_feed 114 = .ok (.iinc 6 1, 3) := by decide +kernel
theorem dX8_feed_117 : decode cX8_feed 117 = .ok (.goto (-84), 3) := by decide +kernel
theorem dX8_feed_120 : decode cX8_feed 120 = .ok (.aload_n 0, 1) := by decide +kernel
theorem dX8_feed_121 : decode cX8_feed 121 = .ok (.aload_n 0, 1) := by decide +kernel
theorem dX8_feed_122 : decode cX8_feed 122 = .ok (.getfield 88, 3) := by decide +kernel
theorem dX8_feed_125 : decode cX8_feed 125 = .ok (.bipush 20, 2) := by decide +kernel
theorem dX8_feed_127 : decode cX8_feed 127 = .ok (.iadd, 1) := by decide +kernel
theorem dX8_feed_128 : decode cX8_feed 128 = .ok (.putfield 88, 3) := by decide +kernel
theorem dX8_feed_131 : decode cX8_feed 131 = .ok (.aload_n 0, 1) := by decide +kernel
theorem dX8_feed_132 : decode cX8_feed 132 = .ok (.getfield 88, 3) := by decide +kernel
theorem dX8_feed_135 : decode cX8_feed 135 = .ok (.ireturn, 1) := by decide +kernel
theorem dX8_end_0 : decode cX8_end 0 = .ok (.aload_n 0, 1) := by decide +kernel
theorem dX8_end_1 : decode cX8_end 1 = .ok (.iload_n 1, 1) := by decide +kernel
theorem dX8_end_2 : decode cX8_end 2 = .ok (.ifCond .lt 15, 3) := by decide +kernel
theorem dX8_end_5 : decode cX8_end 5 = .ok (.iload_n 1, 1) := by decide +kernel
theorem dX8_end_6 : decode cX8_end 6 = .ok (.aload_n 0, 1) := by decide +kernel
theorem dX8_end_7 : decode cX8_end 7 = .ok (.getfield 88, 3) := by decide +kernel
theorem dX8_end_10 : decode cX8_end 10 = .ok (.if_icmp .gt 7, 3) := by decide +kernel
theorem dX8_end_13 : decode cX8_end 13 = .ok (.iconst 0, 1) := by decide +kernel
theorem dX8_end_14 : decode cX8_end 14 = .ok (.goto 4, 3) := by decide +kernel
theorem dX8_end_17 : decode cX8_end 17 = .ok (.iconst 1, 1) := by decide +kernel
theorem dX8_end_18 : decode cX8_end 18 = .ok (.putfield 71, 3) := by decide +kernel
theorem dX8_end_21 : decode cX8_end 21 = .ok (.aload_n 0, 1) := by decide +kernel
theorem dX8_end_22 : decode cX8_end 22 = .ok (.aload_n 0, 1) := by decide +kernel
theorem dX8_end_23 : decode cX8_end 23 = .ok (.getfield 71, 3) := by decide +kernel
theorem dX8_end_26 : decode cX8_end 26 = .ok (.ifCond .le 10, 3) := by decide +kernel
theorem dX8_end_29 : decode cX8_end 29 = .ok (.aload_n 0, 1) := by decide +kernel
theorem dX8_end_30 : decode cX8_end 30 = .ok (.getfield 88, 3) := by decide +kernel
theorem dX8_end_33 : decode cX8_end 33 = .ok (.goto 4, 3) := by decide +kernel
theorem dX8_end_36 : decode cX8_end 36 = .ok (.iload_n 1, 1) := by decide +kernel
theorem dX8_end_37 : decode cX8_end 37 = .ok (.putfield 88, 3) := by decide +kernel
theorem dX8_end_40 : decode cX8_end 40 = .ok (.return_, 1) := by decide +kernel
theorem dX8_about_0 : decode cX8_about 0 = .ok (.aload_n 0, 1) := by decide +kernel
theorem dX8_about_1 : decode cX8_about 1 = .ok (.aload_n 0, 1) := by decide +kernel
theorem dX8_about_2 : decode cX8_about 2 = .ok (.iload_n 1, 1) := by decide +kernel
theorem dX8_about_3 : decode cX8_about 3 = .ok (.invokevirtual 131, 3) := by decide +kernel
theorem dX8_about_6 : decode cX8_about 6 = .ok (.ifCond .ne 7, 3) := by decide +kernel
theorem dX8_about_9 : decode cX8_about 9 = .ok (.iconst 1, 1) := by decide +kernel
theorem dX8_about_10 : decode cX8_about 10 = .ok (.goto 17, 3) := by decide +kernel
theorem dX8_about_13 : decode cX8_about 13 = .ok (.iload_n 2, 1) := by decide +kernel
theorem dX8_about_14 : decode cX8_about 14 = .ok (.ifCond .lt 8, 3) := by decide +kernel
theorem dX8_about_17 : decode cX8_about 17 = .ok (.iload_n 2, 1) := by decide +kernel
theorem dX8_about_18 : decode cX8_about 18 = .ok (.iconst 3, 1) := by decide +kernel
theorem dX8_about_19 : decode cX8_about 19 = .ok (.if_icmp .le 7, 3) := by decide +kernel
theorem dX8_about_22 : decode cX8_about 22 = .ok (.iconst 2, 1) := by decide +kernel
theorem dX8_about_23 : decode cX8_about 23 = .ok (.goto 4, 3) := by decide +kernel
theorem dX8_about_26 : decode cX8_about 26 = .ok (.iconst 0, 1) := by decide +kernel
theorem dX8_about_27 : decode cX8_about 27 = .ok (.putfield 71, 3) := by decide +kernel
theorem dX8_about_30 : decode cX8_about 30 = .ok (.aload_n 0, 1) := by decide +kernel
theorem dX8_about_31 : decode cX8_about 31 = .ok (.getfield 71, 3) := by decide +kernel
theorem dX8_about_34 : decode cX8_about 34 = .ok (.ifCond .le 5, 3) := by decide +kernel
theorem dX8_about_37 : decode cX8_about 37 = .ok (.iconst 0, 1) := by decide +kernel
theorem dX8_about_38 : decode cX8_about 38 = .ok (.ireturn, 1) := by decide +kernel
theorem dX8_about_39 : decode cX8_about 39 = .ok (.iload_n 2, 1) := by decide +kernel
theorem dX8_about_40 : decode cX8_about 40 = .ok (.iconst 3, 1) := by decide +kernel
theorem dX8_about_41 : decode cX8_about 41 = .ok (.if_icmp .ne 36, 3) := by decide +kernel
theorem dX8_about_44 : decode cX8_about 44 = .ok (.aload_n 0, 1) := by decide +kernel
theorem dX8_about_45 : decode cX8_about 45 = .ok (.getfield 17, 3) := by decide +kernel
theorem dX8_about_48 : decode cX8_about 48 = .ok (.iload_n 1, 1) := by decide +kernel
theorem dX8_about_49 : decode cX8_about 49 = .ok (.iaload, 1) := by decide +kernel
theorem dX8_about_50 : decode cX8_about 50 = .ok (.invokestatic 100, 3) := by decide +kernel
theorem dX8_about_53 : decode cX8_about 53 = .ok (.ifCond .ne 22, 3) := by decide +kernel
theorem dX8_about_56 : decode cX8_about 56 = .ok (.aload_n 0, 1) := by decide +kernel
theorem dX8_about_57 : decode cX8_about 57 = .ok (.aload_n 0, 1) := by decide +kernel
theorem dX8_about_58 : decode cX8_about 58 = .ok (.getfield 50, 3) := by decide +kernel
theorem dX8_about_61 : decode cX8_about 61 = .ok (.iload_n 1, 1) := by decide +kernel
theorem dX8_about_62 : decode cX8_about 62 = .ok (.invokevirtual 260, 3) := by decide +kernel
theorem dX8_about_65 : decode cX8_about 65 = .ok (.ifCond .eq 10, 3) := by decide +kernel
theorem dX8_about_68 : decode cX8_about 68 = .ok (.aload_n 0, 1) := by decide +kernel
theorem dX8_about_69 : decode cX8_about 69 = .ok (.getfield 202, 3) := by decide +kernel
theorem dX8_about_72 : decode cX8_about 72 = .ok (.goto 4, 3) := by decide +kernel
theorem dX8_about_75 : decode cX8_about 75 = .ok (.iconst 0, 1) := by decide +kernel
theorem dX8_about_76 : decode cX8_about 76 = .ok (.ireturn, 1) := by decide +kernel
theorem dX8_about_77 : decode cX8_about 77 = .ok (.iload_n 2, 1) := by decide +kernel
theorem dX8_about_78 : decode cX8_about 78 = .ok (.ifCond .ne 12, 3) := by decide +kernel
theorem dX8_about_81 : decode cX8_about 81 = .ok (.aload_n 0, 1) := by decide +kernel
theorem dX8_about_82 : decode cX8_about 82 = .ok (.getfield 17, 3) := by decide +kernel
theorem dX8_about_85 : decode cX8_about 85 = .ok (.iload_n 1, 1) := by decide +kernel
theorem dX8_about_86 : decode cX8_about 86 = .ok (.iaload, 1) := by decide +kernel
theorem dX8_about_87 : decode cX8_about 87 = .ok (.goto 23, 3) := by decide +kernel
theorem dX8_about_90 : decode cX8_about 90 = .ok (.iload_n 2, 1) := by decide +kernel
theorem dX8_about_91 : decode cX8_about 91 = .ok (.iconst 1, 1) := by decide +kernel
theorem dX8_about_92 : decode cX8_about 92 = .ok (.if_icmp .ne 12, 3) := by decide +kernel
theorem dX8_about_95 : decode cX8_about 95 = .ok (.aload_n 0, 1) := by decide +kernel
theorem dX8_about_96 : decode cX8_about 96 = .ok (.getfield 38, 3) := by decide +kernel
theorem dX8_about_99 : decode cX8_about 99 = .ok (.iload_n 1, 1) := by decide +kernel
theorem dX8_about_100 : decode cX8_about 100 = .ok (.iaload, 1) := by decide +kernel
theorem dX8_about_101 : decode cX8_about 101 = .ok (.goto 9, 3) := by decide +kernel
theorem dX8_about_104 : decode cX8_about 104 = .ok (.aload_n 0, 1) := by decide +kernel
theorem dX8_about_105 : decode cX8_about 105 = .ok (.getfield 29, 3) := by decide +kernel
theorem dX8_about_108 : decode cX8_about 108 = .ok (.iload_n 1, 1) := by decide +kernel
theorem dX8_about_109 : decode cX8_about 109 = .ok (.iaload, 1) := by decide +kernel
theorem dX8_about_110 : decode cX8_about 110 = .ok (.ireturn, 1) := by decide +kernel
theorem dX8_number__0 : decode cX8_number_ 0 = .ok (.aload_n 0, 1) := by decide +kernel
theorem dX8_number__1 : decode cX8_number_ 1 = .ok (.iload_n 1, 1) := by decide +kernel
theorem dX8_number__2 : decode cX8_number_ 2 = .ok (.invokevirtual 131, 3) := by decide +kernel
theorem dX8_number__5 : decode cX8_number_ 5 = .ok (.ifCond .eq 48, 3) := by decide +kernel
theorem dX8_number__8 : decode cX8_number_ 8 = .ok (.aload_n 0, 1) := by decide +kernel
theorem dX8_number__9 : decode cX8_number_ 9 = .ok (.getfield 17, 3) := by decide +kernel
theorem dX8_number__12 : decode cX8_number_ 12 = .ok (.iload_n 1, 1) := by decide +kernel
theorem dX8_number__13 : decode cX8_number_ 13 = .ok (.iaload, 1) := by decide +kernel
theorem dX8_number__14 : decode cX8_number_ 14 = .ok (.iconst 2, 1) := by decide +kernel
theorem dX8_number__15 : decode cX8_number_ 15 = .ok (.if_icmp .eq 34, 3) := by decide +kernel
theorem dX8_number__18 : decode cX8_number_ 18 = .ok (.aload_n 0, 1) := by decide +kernel
theorem dX8_number__19 : decode cX8_number_ 19 = .ok (.getfield 17, 3) := by decide +kernel
theorem dX8_number__22 : decode cX8_number_ 22 = .ok (.iload_n 1, 1) := by decide +kernel
theorem dX8_number__23 : decode cX8_number_ 23 = .ok (.iaload, 1) := by decide +kernel
theorem dX8_number__24 : decode cX8_number_ 24 = .ok (.iconst 3, 1) := by decide +kernel
theorem dX8_number__25 : decode cX8_number_ 25 = .ok (.if_icmp .eq 24, 3) := by decide +kernel
theorem dX8_number__28 : decode cX8_number_ 28 = .ok (.aload_n 0, 1) := by decide +kernel
theorem dX8_number__29 : decode cX8_number_ 29 = .ok (.getfield 17, 3) := by decide +kernel
theorem dX8_number__32 : decode cX8_number_ 32 = .ok (.iload_n 1, 1) := by decide +kernel
theorem dX8_number__33 : decode cX8_number_ 33 = .ok (.iaload, 1) := by decide +kernel
theorem dX8_number__34 : decode cX8_number_ 34 = .ok (.iconst 4, 1) := by decide +kernel
theorem dX8_number__35 : decode cX8_number_ 35 = .ok (.if_icmp .eq 14, 3) := by decide +kernel
theorem dX8_number__38 : decode cX8_number_ 38 = .ok (.aload_n 0, 1) := by decide +kernel
theorem dX8_number__39 : decode cX8_number_ 39 = .ok (.getfield 17, 3) := by decide +kernel
theorem dX8_number__42 : decode cX8_number_ 42 = .ok (.iload_n 1, 1) := by decide +kernel
theorem dX8_number__43 : decode cX8_number_ 43 = .ok (.iaload, 1) := by decide +kernel
theorem dX8_number__44 : decode cX8_number_ 44 = .ok (.bipush 10, 2) := by decide +kernel
theorem dX8_number__46 : decode cX8_number_ 46 = .ok (.if_icmp .ne 7, 3) := by decide +kernel
theorem dX8_number__49 : decode cX8_number_ 49 = .ok (.iconst 1, 1) := by decide +kernel
theorem dX8_number__50 : decode cX8_number_ 50 = .ok (.goto 4, 3) := by decide +kernel
theorem dX8_number__53 : decode cX8_number_ 53 = .ok (.iconst 0, 1) := by decide +kernel
theorem dX8_number__54 : decode cX8_number_ 54 = .ok (.istore_n 2, 1) := by decide +kernel
theorem dX8_number__55 : decode cX8_number_ 55 = .ok (.aload_n 0, 1) := by decide +kernel
theorem dX8_number__56 : decode cX8_number_ 56 = .ok (.aload_n 0, 1) := by decide +kernel
theorem dX8_number__57 : decode cX8_number_ 57 = .ok (.iload_n 1, 1) := by decide +kernel
theorem dX8_number__58 : decode cX8_number_ 58 = .ok (.invokevirtual 131, 3) := by decide +kernel
theorem dX8_number__61 : decode cX8_number_ 61 = .ok (.ifCond .ne 7, 3) := by decide +kernel
theorem dX8_number__64 : decode cX8_number_ 64 = .ok (.iconst 1, 1) := by decide +kernel
theorem dX8_number__65 : decode cX8_number_ 65 = .ok (.goto 25, 3) := by decide +kernel
theorem dX8_number__68 : decode cX8_number_ 68 = .ok (.iload_n 2, 1) := by decide +kernel
theorem dX8_number__69 : decode cX8_number_ 69 = .ok (.ifCond .ne 7, 3) := by decide +kernel
theorem dX8_number__72 : decode cX8_number_ 72 = .ok (.iconst 2, 1) := by decide +kernel
theorem dX8_number__73 : decode cX8_number_ 73 = .ok (.goto 17, 3) := by decide +kernel
theorem dX8_number__76 : decode cX8_number_ 76 = .ok (.aload_n 0, 1) := by decide +kernel
theorem dX8_number__77 : decode cX8_number_ 77 = .ok (.getfield 25, 3) := by decide +kernel
theorem dX8_number__80 : decode cX8_number_ 80 = .ok (.iload_n 1, 1) := by decide +kernel
theorem dX8_number__81 : decode cX8_number_ 81 = .ok (.baload, 1) := by decide +kernel
theorem dX8_number__82 : decode cX8_number_ 82 = .ok (.ifCond .eq 7, 3) := by decide +kernel
theorem dX8_number__85 : decode cX8_number_ 85 = .ok (.iconst 3, 1) := by decide +kernel
theorem dX8_number__86 : decode cX8_number_ 86 = .ok (.goto 4, 3) := by decide +kernel
theorem dX8_number__89 : decode cX8_number_ 89 = .ok (.iconst 0, 1) := by decide +kernel
theorem dX8_number__90 : decode cX8_number_ 90 = .ok (.putfield 71, 3) := by decide +kernel
theorem dX8_number__93 : decode cX8_number_ 93 = .ok (.aload_n 0, 1) := by decide +kernel
theorem dX8_number__94 : decode cX8_number_ 94 = .ok (.getfield 71, 3) := by decide +kernel
theorem dX8_number__97 : decode cX8_number_ 97 = .ok (.ifCond .le 7, 3) := by decide +kernel
theorem dX8_number__100 : decode cX8_number_ 100 = .ok (.lconst 0, 1) := by decide +kernel
theorem dX8_number__101 : decode cX8_number_ 101 = .ok (.goto 9, 3) := by decide +kernel
theorem dX8_number__104 : decode cX8_number_ 104 = .ok (.aload_n 0, 1) := by decide +kernel
theorem dX8_number__105 : decode cX8_number_ 105 = .ok (.getfield 21, 3) := by decide +kernel
theorem dX8_number__108 : decode cX8_number_ 108 = .ok (.iload_n 1, 1) := by decide +kernel
theorem dX8_number__109 : decode cX8_number_ 109 = .ok (.laload, 1) := by decide +kernel
theorem dX8_number__110 : decode cX8_number_ 110 = .ok (.lreturn, 1) := by decide +kernel
theorem dX8_part_0 : decode cX8_part 0 = .ok (.aload_n 0, 1) := by decide +kernel
theorem dX8_part_1 : decode cX8_part 1 = .ok (.iload_n 1, 1) := by decide +kernel
theorem dX8_part_2 : decode cX8_part 2 = .ok (.invokevirtual 131, 3) := by decide +kernel
theorem dX8_part_5 : decode cX8_part 5 = .ok (.ifCond .ne 7, 3) := by decide +kernel
theorem dX8_part_8 : decode cX8_part 8 = .ok (.iconst 0, 1) := by decide +kernel
theorem dX8_part_9 : decode cX8_part 9 = .ok (.goto 31, 3) := by decide +kernel
theorem dX8_part_12 : decode cX8_part 12 = .ok (.aload_n 0, 1) := by decide +kernel
theorem dX8_part_13 : decode cX8_part 13 = .ok (.getfield 17, 3) := by decide +kernel
theorem dX8_part_16 : decode cX8_part 16 = .ok (.iload_n 1, 1) := by decide +kernel
theorem dX8_part_17 : decode cX8_part 17 = .ok (.iaload, 1) := by decide +kernel
theorem dX8_part_18 : decode cX8_part 18 = .ok (.bipush 8, 2) := by decide +kernel
theorem dX8_part_20 : decode cX8_part 20 = .ok (.if_icmp .ne 14, 3) := by decide +kernel
theorem dX8_part_23 : decode cX8_part 23 = .ok (.iconst 2, 1) := by decide +kernel
theorem dX8_part_24 : decode cX8_part 24 = .ok (.aload_n 0, 1) := by decide +kernel
theorem dX8_part_25 : decode cX8_part 25 = .ok (.getfield 38, 3) := by decide +kernel
theorem dX8_part_28 : decode cX8_part 28 = .ok (.iload_n 1, 1) := by decide +kernel
theorem dX8_part_29 : decode cX8_part 29 = .ok (.iaload, 1) := by decide +kernel
theorem dX8_part_30 : decode cX8_part 30 = .ok (.imul, 1) := by decide +kernel
theorem dX8_part_31 : decode cX8_part 31 = .ok (.goto 9, 3) := by decide +kernel
theorem dX8_part_34 : decode cX8_part 34 = .ok (.aload_n 0, 1) := by decide +kernel
theorem dX8_part_35 : decode cX8_part 35 = .ok (.getfield 38, 3) := by decide +kernel
theorem dX8_part_38 : decode cX8_part 38 = .ok (.iload_n 1, 1) := by decide +kernel
theorem dX8_part_39 : decode cX8_part 39 = .ok (.iaload, 1) := by decide +kernel
theorem dX8_part_40 : decode cX8_part 40 = .ok (.istore_n 3, 1) := by decide +kernel
theorem dX8_part_41 : decode cX8_part 41 = .ok (.aload_n 0, 1) := by decide +kernel
theorem dX8_part_42 : decode cX8_part 42 = .ok (.iload_n 2, 1) := by decide +kernel
theorem dX8_part_43 : decode cX8_part 43 = .ok (.ifCond .lt 12, 3) := by decide +kernel
theorem dX8_part_46 : decode cX8_part 46 = .ok (.iload_n 2, 1) := by decide +kernel
theorem dX8_part_47 : decode cX8_part 47 = .ok (.iload_n 3, 1) := by decide +kernel
theorem dX8_part_48 : decode cX8_part 48 = .ok (.if_icmp .ge 7, 3) := by decide +kernel
theorem dX8_part_51 : decode cX8_part 51 = .ok (.iconst 0, 1) := by decide +kernel
theorem dX8_part_52 : decode cX8_part 52 = .ok (.goto 4, 3) := by decide +kernel
theorem dX8_part_55 : decode cX8_part 55 = .ok (.iconst 1, 1) := by decide +kernel
theorem dX8_part_56 : decode cX8_part 56 = .ok (.putfield 71, 3) := by decide +kernel
theorem dX8_part_59 : decode cX8_part 59 = .ok (.aload_n 0, 1) := by decide +kernel
theorem dX8_part_60 : decode cX8_part 60 = .ok (.getfield 71, 3) := by decide +kernel
theorem dX8_part_63 : decode cX8_part 63 = .ok (.ifCond .le 5, 3) := by decide +kernel
theorem dX8_part_66 : decode cX8_part 66 = .ok (.iconst 0, 1) := by decide +kernel
theorem dX8_part_67 : decode cX8_part 67 = .ok (.ireturn, 1) := by decide +kernel
theorem dX8_part_68 : decode cX8_part 68 = .ok (.aload_n 0, 1) := by decide +kernel
theorem dX8_part_69 : decode cX8_part 69 = .ok (.getfield 17, 3) := by decide +kernel
theorem dX8_part_72 : decode cX8_part 72 = .ok (.iload_n 1, 1) := by decide +kernel
theorem dX8_part_73 : decode cX8_part 73 = .ok (.iaload, 1) := by decide +kernel
theorem dX8_part_74 : decode cX8_part 74 = .ok (.invokestatic 100, 3) := by decide +kernel
theorem dX8_part_77 : decode cX8_part 77 = .ok (.ifCond .ne 21, 3) := by decide +kernel
theorem dX8_part_80 : decode cX8_part 80 = .ok (.aload_n 0, 1) := by decide +kernel
theorem dX8_part_81 : decode cX8_part 81 = .ok (.getfield 47, 3) := by decide +kernel
theorem dX8_part_84 : decode cX8_part 84 = .ok (.aload_n 0, 1) := by decide +kernel
theorem dX8_part_85 : decode cX8_part 85 = .ok (.getfield 32, 3) := by decide +kernel
theorem dX8_part_88 : decode cX8_part 88 = .ok (.iload_n 1, 1) := by decide +kernel
theorem dX8_part_89 : decode cX8_part 89 = .ok (.iaload, 1) := by decide +kernel
theorem dX8_part_90 : decode cX8_part 90 = .ok (.iload_n 2, 1) := by decide +kernel
theorem dX8_part_91 : decode cX8_part 91 = .ok (.iadd, 1) := by decide +kernel
theorem dX8_part_92 : decode cX8_part 92 = .ok (.baload, 1) := by decide +kernel
theorem dX8_part_93 : decode cX8_part 93 = .ok (.sipush 255, 3) := by decide +kernel
theorem dX8_part_96 : decode cX8_part 96 = .ok (.iand, 1) := by decide +kernel
theorem dX8_part_97 : decode cX8_part 97 = .ok (.ireturn, 1) := by decide +kernel
theorem dX8_part_98 : decode cX8_part 98 = .ok (.aload_n 0, 1) := by decide +kernel
theorem dX8_part_99 : decode cX8_part 99 = .ok (.getfield 32, 3) := by decide +kernel
theorem dX8_part_102 : decode cX8_part 102 = .ok (.iload_n 1, 1) := by decide +kernel
theorem dX8_part_103 : decode cX8_part 103 = .ok (.iaload, 1) := by decide +kernel
theorem dX8_part_104 : decode cX8_part 104 = .ok (.istore 4, 2) := by decide +kernel
theorem dX8_part_106 : decode cX8_part 106 = .ok (.iconst 0, 1) := by decide +kernel
theorem dX8_part_107 : decode cX8_part 107 = .ok (.istore 5, 2) := by decide +kernel
theorem dX8_part_109 : decode cX8_part 109 = .ok (.iload 5, 2) := by decide +kernel
theorem dX8_part_111 : decode cX8_part 111 = .ok (.iload_n 2, 1) := by decide +kernel
theorem dX8_part_112 : decode cX8_part 112 = .ok (.if_icmp .ge 18, 3) := by decide +kernel
theorem dX8_part_115 : decode cX8_part 115 = .ok (.aload_n 0, 1) := by decide +kernel
theorem dX8_part_116 : decode cX8_part 116 = .ok (.getfield 44, 3) := by decide +kernel
theorem dX8_part_119 : decode cX8_part 119 = .ok (.iload 4, 2) := by decide +kernel
theorem dX8_part_121 : decode cX8_part 121 = .ok (.iaload, 1) := by decide +kernel
theorem dX8_part_122 : decode cX8_part 122 = .ok (.istore 4, 2) := by decide +kernel
theorem dX8_part_124 : decode cX8_part 124 = .ok (.iinc 5 1, 3) := by decide +kernel
theorem dX8_part_127 : decode cX8_part 127 = .ok (.goto (-18), 3) := by decide +kernel
theorem dX8_part_130 : decode cX8_part 130 = .ok (.aload_n 0, 1) := by decide +kernel
theorem dX8_part_131 : decode cX8_part 131 = .ok (.getfield 41, 3) := by decide +kernel
theorem dX8_part_134 : decode cX8_part 134 = .ok (.iload 4, 2) := by decide +kernel
theorem dX8_part_136 : decode cX8_part 136 = .ok (.iaload, 1) := by decide +kernel
theorem dX8_part_137 : decode cX8_part 137 = .ok (.ireturn, 1) := by decide +kernel
theorem dX8_count_0 : decode cX8_count 0 = .ok (.aload_n 0, 1) := by decide +kernel
theorem dX8_count_1 : decode cX8_count 1 = .ok (.iload_n 1, 1) := by decide +kernel
theorem dX8_count_2 : decode cX8_count 2 = .ok (.ifCond .lt 12, 3) := by decide +kernel
theorem dX8_count_5 : decode cX8_count 5 = .ok (.iload_n 1, 1) := by decide +kernel
theorem dX8_count_6 : decode cX8_count 6 = .ok (.iconst 4, 1) := by decide +kernel
theorem dX8_count_7 : decode cX8_count 7 = .ok (.if_icmp .gt 7, 3) := by decide +kernel
theorem dX8_count_10 : decode cX8_count 10 = .ok (.iconst 0, 1) := by decide +kernel
theorem dX8_count_11 : decode cX8_count 11 = .ok (.goto 4, 3) := by decide +kernel
theorem dX8_count_14 : decode cX8_count 14 = .ok (.iconst 1, 1) := by decide +kernel
theorem dX8_count_15 : decode cX8_count 15 = .ok (.putfield 71, 3) := by decide +kernel
theorem dX8_count_18 : decode cX8_count 18 = .ok (.aload_n 0, 1) := by decide +kernel
theorem dX8_count_19 : decode cX8_count 19 = .ok (.getfield 71, 3) := by decide +kernel
theorem dX8_count_22 : decode cX8_count 22 = .ok (.ifCond .le 5, 3) := by decide +kernel
theorem dX8_count_25 : decode cX8_count 25 = .ok (.iconst 0, 1) := by decide +kernel
theorem dX8_count_26 : decode cX8_count 26 = .ok (.ireturn, 1) := by decide +kernel
theorem dX8_count_27 : decode cX8_count 27 = .ok (.iload_n 1, 1) := by decide +kernel
theorem dX8_count_28 : decode cX8_count 28 = .ok (.ifCond .ne 10, 3) := by decide +kernel
theorem dX8_count_31 : decode cX8_count 31 = .ok (.aload_n 0, 1) := by decide +kernel
theorem dX8_count_32 : decode cX8_count 32 = .ok (.getfield 107, 3) := by decide +kernel
theorem dX8_count_35 : decode cX8_count 35 = .ok (.goto 43, 3) := by decide +kernel
theorem dX8_count_38 : decode cX8_count 38 = .ok (.iload_n 1, 1) := by decide +kernel
theorem dX8_count_39 : decode cX8_count 39 = .ok (.iconst 1, 1) := by decide +kernel
theorem dX8_count_40 : decode cX8_count 40 = .ok (.if_icmp .ne 10, 3) := by decide +kernel
theorem dX8_count_43 : decode cX8_count 43 = .ok (.aload_n 0, 1) := by decide +kernel
theorem dX8_count_44 : decode cX8_count 44 = .ok (.getfield 117, 3) := by decide +kernel
theorem dX8_count_47 : decode cX8_count 47 = .ok (.goto 31, 3) := by decide +kernel
theorem dX8_count_50 : decode cX8_count 50 = .ok (.iload_n 1, 1) := by decide +kernel
theorem dX8_count_51 : decode cX8_count 51 = .ok (.iconst 2, 1) := by decide +kernel
theorem dX8_count_52 : decode cX8_count 52 = .ok (.if_icmp .ne 10, 3) := by decide +kernel
theorem dX8_count_55 : decode cX8_count 55 = .ok (.aload_n 0, 1) := by decide +kernel
theorem dX8_count_56 : decode cX8_count 56 = .ok (.getfield 114, 3) := by decide +kernel
theorem dX8_count_59 : decode cX8_count 59 = .ok (.goto 19, 3) := by decide +kernel
theorem dX8_count_62 : decode cX8_count 62 = .ok (.iload_n 1, 1) := by decide +kernel
theorem dX8_count_63 : decode cX8_count 63 = .ok (.iconst 3, 1) := by decide +kernel
theorem dX8_count_64 : decode cX8_count 64 = .ok (.if_icmp .ne 10, 3) := by decide +kernel
theorem dX8_count_67 : decode cX8_count 67 = .ok (.aload_n 0, 1) := by decide +kernel
theorem dX8_count_68 : decode cX8_count 68 = .ok (.getfield 88, 3) := by decide +kernel
theorem dX8_count_71 : decode cX8_count 71 = .ok (.goto 7, 3) := by decide +kernel
theorem dX8_count_74 : decode cX8_count 74 = .ok (.aload_n 0, 1) := by decide +kernel
theorem dX8_count_75 : decode cX8_count 75 = .ok (.getfield 263, 3) := by decide +kernel
theorem dX8_count_78 : decode cX8_count 78 = .ok (.ireturn, 1) := by decide +kernel
theorem dX8_clear_0 : decode cX8_clear 0 = .ok (.aload_n 0, 1) := by decide +kernel
theorem dX8_clear_1 : decode cX8_clear 1 = .ok (.iconst 0, 1) := by decide +kernel
theorem dX8_clear_2 : decode cX8_clear 2 = .ok (.putfield 71, 3) := by decide +kernel
theorem dX8_clear_5 : decode cX8_clear 5 = .ok (.aload_n 0, 1) := by decide +kernel
theorem dX8_clear_6 : decode cX8_clear 6 = .ok (.getfield 107, 3) := by decide +kernel
theorem dX8_clear_9 : decode cX8_clear 9 = .ok (.istore_n 1, 1) := by decide +kernel
theorem dX8_clear_10 : decode cX8_clear 10 = .ok (.aload_n 0, 1) := by decide +kernel
theorem dX8_clear_11 : decode cX8_clear 11 = .ok (.iconst 0, 1) := by decide +kernel
theorem dX8_clear_12 : decode cX8_clear 12 = .ok (.putfield 107, 3) := by decide +kernel
theorem dX8_clear_15 : decode cX8_clear 15 = .ok (.aload_n 0, 1) := by decide +kernel
theorem dX8_clear_16 : decode cX8_clear 16 = .ok (.iconst 0, 1) := by decide +kernel
theorem dX8_clear_17 : decode cX8_clear 17 = .ok (.putfield 117, 3) := by decide +kernel
theorem dX8_clear_20 : decode cX8_clear 20 = .ok (.aload_n 0, 1) := by decide +kernel
theorem dX8_clear_21 : decode cX8_clear 21 = .ok (.iconst 0, 1) := by decide +kernel
theorem dX8_clear_22 : decode cX8_clear 22 = .ok (.putfield 114, 3) := by decide +kernel
theorem dX8_clear_25 : decode cX8_clear 25 = .ok (.iload_n 1, 1) := by decide +kernel
theorem dX8_clear_26 : decode cX8_clear 26 = .ok (.ireturn, 1) := by decide +kernel
end
section
theorem dL_feed_0 : decode cL_feed 0 = .ok (.aload 6, 2) := by decide +kernel
theorem dL_feed_2 : decode cL_feed 2 = .ok (.iconst 0, 1) := by decide +kernel
theorem dL_feed_3 : decode cL_feed 3 = .ok (.aload_n 0, 1) := by decide +kernel
theorem dL_feed_4 : decode cL_feed 4 = .ok (.iload_n 1, 1) := by decide +kernel
theorem dL_feed_5 : decode cL_feed 5 = .ok (.iload_n 2, 1) := by decide +kernel
theorem dL_feed_6 : decode cL_feed 6 = .ok (.iload_n 3, 1) := by decide +kernel
theorem dL_feed_7 : decode cL_feed 7 = .ok (.iload 4, 2) := by decide +kernel
theorem dL_feed_9 : decode cL_feed 9 = .ok (.iload 5, 2) := by decide +kernel
theorem dL_feed_11 : decode cL_feed 11 = .ok (.invokevirtual 7, 3) := by decide +kernel
theorem dL_feed_14 : decode cL_feed 14 = .ok (.i2l, 1) := by decide +kernel
theorem dL_feed_15 : decode cL_feed 15 = .ok (.lastore, 1) := by decide +kernel
theorem dL_feed_16 : decode cL_feed 16 = .ok (.goto 7, 3) := by decide +kernel
theorem dL_feed_19 : decode cL_feed 19 = .ok (.astore 7, 2) := by decide +kernel
theorem dL_feed_21 : decode cL_feed 21 = .ok (.iconst 1, 1) := by decide +kernel
theorem dL_feed_22 : decode cL_feed 22 = .ok (.ireturn, 1) := by decide +kernel
theorem dL_feed_23 : decode cL_feed 23 = .ok (.iconst 0, 1) := by decide +kernel
theorem dL_feed_24 : decode cL_feed 24 = .ok (.ireturn, 1) := by decide +kernel
theorem dL_end_0 : decode cL_end 0 = .ok (.aload_n 0, 1) := by decide +kernel
theorem dL_end_1 : decode cL_end 1 = .ok (.iload_n 1, 1) := by decide +kernel
theorem dL_end_2 : decode cL_end 2 = .ok (.invokevirtual 15, 3) := by decide +kernel
theorem dL_end_5 : decode cL_end 5 = .ok (.goto 6, 3) := by decide +kernel
theorem dL_end_8 : decode cL_end 8 = .ok (.astore_n 2, 1) := by decide +kernel
theorem dL_end_9 : decode cL_end 9 = .ok (.iconst 1, 1) := by decide +kernel
theorem dL_end_10 : decode cL_end 10 = .ok (.ireturn, 1) := by decide +kernel
theorem dL_end_11 : decode cL_end 11 = .ok (.iconst 0, 1) := by decide +kernel
theorem dL_end_12 : decode cL_end 12 = .ok (.ireturn, 1) := by decide +kernel
theorem dL_fault_0 : decode cL_fault 0 = .ok (.aload_n 2, 1) := by decide +kernel
theorem dL_fault_1 : decode cL_fault 1 = .ok (.iconst 0, 1) := by decide +kernel
theorem dL_fault_2 : decode cL_fault 2 = .ok (.aload_n 0, 1) := by decide +kernel
theorem dL_fault_3 : decode cL_fault 3 = .ok (.iload_n 1, 1) := by decide +kernel
theorem dL_fault_4 : decode cL_fault 4 = .ok (.invokevirtual 21, 3) := by decide +kernel
theorem dL_fault_7 : decode cL_fault 7 = .ok (.i2l, 1) := by decide +kernel
theorem dL_fault_8 : decode cL_fault 8 = .ok (.lastore, 1) := by decide +kernel
theorem dL_fault_9 : decode cL_fault 9 = .ok (.goto 6, 3) := by decide +kernel
theorem dL_fault_12 : decode cL_fault 12 = .ok (.astore_n 3, 1) := by decide +kernel
theorem dL_fault_13 : decode cL_fault 13 = .ok (.iconst 1, 1) := by decide +kernel
theorem dL_fault_14 : decode cL_fault 14 = .ok (.ireturn, 1) := by decide +kernel
theorem dL_fault_15 : decode cL_fault 15 = .ok (.iconst 0, 1) := by decide +kernel
theorem dL_fault_16 : decode cL_fault 16 = .ok (.ireturn, 1) := by decide +kernel
theorem dL_skip_0 : decode cL_skip 0 = .ok (.aload_n 2, 1) := by decide +kernel
theorem dL_skip_1 : decode cL_skip 1 = .ok (.iconst 0, 1) := by decide +kernel
theorem dL_skip_2 : decode cL_skip 2 = .ok (.aload_n 0, 1) := by decide +kernel
theorem dL_skip_3 : decode cL_skip 3 = .ok (.iload_n 1, 1) := by decide +kernel
theorem dL_skip_4 : decode cL_skip 4 = .ok (.invokevirtual 27, 3) := by decide +kernel
theorem dL_skip_7 : decode cL_skip 7 = .ok (.i2l, 1) := by decide +kernel
theorem dL_skip_8 : decode cL_skip 8 = .ok (.lastore, 1) := by decide +kernel
theorem dL_skip_9 : decode cL_skip 9 = .ok (.goto 6, 3) := by decide +kernel
theorem dL_skip_12 : decode cL_skip 12 = .ok (.astore_n 3, 1) := by decide +kernel
theorem dL_skip_13 : decode cL_skip 13 = .ok (.iconst 1, 1) := by decide +kernel
theorem dL_skip_14 : decode cL_skip 14 = .ok (.ireturn, 1) := by decide +kernel
theorem dL_skip_15 : decode cL_skip 15 = .ok (.iconst 0, 1) := by decide +kernel
theorem dL_skip_16 : decode cL_skip 16 = .ok (.ireturn, 1) := by decide +kernel
theorem dL_pack_0 : decode cL_pack 0 = .ok (.aload_n 2, 1) := by decide +kernel
theorem dL_pack_1 : decode cL_pack 1 = .ok (.iconst 0, 1) := by decide +kernel
theorem dL_pack_2 : decode cL_pack 2 = .ok (.aload_n 0, 1) := by decide +kernel
theorem dL_pack_3 : decode cL_pack 3 = .ok (.iload_n 1, 1) := by decide +kernel
theorem dL_pack_4 : decode cL_pack 4 = .ok (.invokevirtual 30, 3) := by decide +kernel
theorem dL_pack_7 : decode cL_pack 7 = .ok (.i2l, 1) := by decide +kernel
theorem dL_pack_8 : decode cL_pack 8 = .ok (.lastore, 1) := by decide +kernel
theorem dL_pack_9 : decode cL_pack 9 = .ok (.goto 9, 3) := by decide +kernel
theorem dL_pack_12 : decode cL_pack 12 = .ok (.astore_n 3, 1) := by decide +kernel
theorem dL_pack_13 : decode cL_pack 13 = .ok (.iconst 1, 1) := by decide +kernel
theorem dL_pack_14 : decode cL_pack 14 = .ok (.ireturn, 1) := by decide +kernel
theorem dL_pack_15 : decode cL_pack 15 = .ok (.astore_n 3, 1) := by decide +kernel
theorem dL_pack_16 : decode cL_pack 16 = .ok (.iconst 2, 1) := by decide +kernel
theorem dL_pack_17 : decode cL_pack 17 = .ok (.ireturn, 1) := by decide +kernel
theorem dL_pack_18 : decode cL_pack 18 = .ok (.iconst 0, 1) := by decide +kernel
theorem dL_pack_19 : decode cL_pack 19 = .ok (.ireturn, 1) := by decide +kernel
theorem dL_shown_0 : decode cL_shown 0 = .ok (.aload_n 2, 1) := by decide +kernel
theorem dL_shown_1 : decode cL_shown 1 = .ok (.iconst 0, 1) := by decide +kernel
theorem dL_shown_2 : decode cL_shown 2 = .ok (.aload_n 0, 1) := by decide +kernel
theorem dL_shown_3 : decode cL_shown 3 = .ok (.iload_n 1, 1) := by decide +kernel
theorem dL_shown_4 : decode cL_shown 4 = .ok (.invokevirtual 33, 3) := by decide +kernel
theorem dL_shown_7 : decode cL_shown 7 = .ok (.i2l, 1) := by decide +kernel
theorem dL_shown_8 : decode cL_shown 8 = .ok (.lastore, 1) := by decide +kernel
theorem dL_shown_9 : decode cL_shown 9 = .ok (.goto 6, 3) := by decide +kernel
theorem dL_shown_12 : decode cL_shown 12 = .ok (.astore_n 3, 1) := by decide +kernel
theorem dL_shown_13 : decode cL_shown 13 = .ok (.iconst 1, 1) := by decide +kernel
theorem dL_shown_14 : decode cL_shown 14 = .ok (.ireturn, 1) := by decide +kernel
theorem dL_shown_15 : decode cL_shown 15 = .ok (.iconst 0, 1) := by decide +kernel
theorem dL_shown_16 : decode cL_shown 16 = .ok (.ireturn, 1) := by decide +kernel
theorem dL_nil_0 : decode cL_nil 0 = .ok (.aload_n 1, 1) := by decide +kernel
theorem dL_nil_1 : decode cL_nil 1 = .ok (.iconst 0, 1) := by decide +kernel
theorem dL_nil_2 : decode cL_nil 2 = .ok (.aload_n 0, 1) := by decide +kernel
theorem dL_nil_3 : decode cL_nil 3 = .ok (.invokevirtual 36, 3) := by decide +kernel
theorem dL_nil_6 : decode cL_nil 6 = .ok (.i2l, 1) := by decide +kernel
theorem dL_nil_7 : decode cL_nil 7 = .ok (.lastore, 1) := by decide +kernel
theorem dL_nil_8 : decode cL_nil 8 = .ok (.goto 6, 3) := by decide +kernel
theorem dL_nil_11 : decode cL_nil 11 = .ok (.astore_n 2, 1) := by decide +kernel
theorem dL_nil_12 : decode cL_nil 12 = .ok (.iconst 1, 1) := by decide +kernel
theorem dL_nil_13 : decode cL_nil 13 = .ok (.ireturn, 1) := by decide +kernel
theorem dL_nil_14 : decode cL_nil 14 = .ok (.iconst 0, 1) := by decide +kernel
theorem dL_nil_15 : decode cL_nil 15 = .ok (.ireturn, 1) := by decide +kernel
theorem dL_truth_0 : decode cL_truth 0 = .ok (.aload_n 2, 1) := by decide +kernel
theorem dL_truth_1 : decode cL_truth 1 = .ok (.iconst 0, 1) := by decide +kernel
theorem dL_truth_2 : decode cL_truth 2 = .ok (.aload_n 0, 1) := by decide +kernel
theorem dL_truth_3 : decode cL_truth 3 = .ok (.iload_n 1, 1) := by decide +kernel
theorem dL_truth_4 : decode cL_truth 4 = .ok (.invokevirtual 40, 3) := by decide +kernel
theorem dL_truth_7 : decode cL_truth 7 = .ok (.i2l, 1) := by decide +kernel
theorem dL_truth_8 : decode cL_truth 8 = .ok (.lastore, 1) := by decide +kernel
theorem dL_truth_9 : decode cL_truth 9 = .ok (.goto 6, 3) := by decide +kernel
theorem dL_truth_12 : decode cL_truth 12 = .ok (.astore_n 3, 1) := by decide +kernel
theorem dL_truth_13 : decode cL_truth 13 = .ok (.iconst 1, 1) := by decide +kernel
theorem dL_truth_14 : decode cL_truth 14 = .ok (.ireturn, 1) := by decide +kernel
theorem dL_truth_15 : decode cL_truth 15 = .ok (.iconst 0, 1) := by decide +kernel
theorem dL_truth_16 : decode cL_truth 16 = .ok (.ireturn, 1) := by decide +kernel
theorem dL_integer_0 : decode cL_integer 0 = .ok (.aload 4, 2) := by decide +kernel
theorem dL_integer_2 : decode cL_integer 2 = .ok (.iconst 0, 1) := by decide +kernel
theorem dL_integer_3 : decode cL_integer 3 = .ok (.aload_n 0, 1) := by decide +kernel
theorem dL_integer_4 : decode cL_integer 4 = .ok (.lload_n 1, 1) := by decide +kernel
theorem dL_integer_5 : decode cL_integer 5 = .ok (.iload_n 3, 1) := by decide +kernel
theorem dL_integer_6 : decode cL_integer 6 = .ok (.invokevirtual 44, 3) := by decide +kernel
theorem dL_integer_9 : decode cL_integer 9 = .ok (.i2l, 1) := by decide +kernel
theorem dL_integer_10 : decode cL_integer 10 = .ok (.lastore, 1) := by decide +kernel
theorem dL_integer_11 : decode cL_integer 11 = .ok (.goto 7, 3) := by decide +kernel
theorem dL_integer_14 : decode cL_integer 14 = .ok (.astore 5, 2) := by decide +kernel
theorem dL_integer_16 : decode cL_integer 16 = .ok (.iconst 1, 1) := by decide +kernel
theorem dL_integer_17 : decode cL_integer 17 = .ok (.ireturn, 1) := by decide +kernel
theorem dL_integer_18 : decode cL_integer 18 = .ok (.iconst 0, 1) := by decide +kernel
theorem dL_integer_19 : decode cL_integer 19 = .ok (.ireturn, 1) := by decide +kernel
theorem dL_real_0 : decode cL_real 0 = .ok (.aload 4, 2) := by decide +kernel
theorem dL_real_2 : decode cL_real 2 = .ok (.iconst 0, 1) := by decide +kernel
theorem dL_real_3 : decode cL_real 3 = .ok (.aload_n 0, 1) := by decide +kernel
theorem dL_real_4 : decode cL_real 4 = .ok (.lload_n 1, 1) := by decide +kernel
theorem dL_real_5 : decode cL_real 5 = .ok (.iload_n 3, 1) := by decide +kernel
theorem dL_real_6 : decode cL_real 6 = .ok (.invokevirtual 48, 3) := by decide +kernel
theorem dL_real_9 : decode cL_real 9 = .ok (.i2l, 1) := by decide +kernel
theorem dL_real_10 : decode cL_real 10 = .ok (.lastore, 1) := by decide +kernel
theorem dL_real_11 : decode cL_real 11 = .ok (.goto 7, 3) := by decide +kernel
theorem dL_real_14 : decode cL_real 14 = .ok (.astore 5, 2) := by decide +kernel
theorem dL_real_16 : decode cL_real 16 = .ok (.iconst 1, 1) := by decide +kernel
theorem dL_real_17 : decode cL_real 17 = .ok (.ireturn, 1) := by decide +kernel
theorem dL_real_18 : decode cL_real 18 = .ok (.iconst 0, 1) := by decide +kernel
theorem dL_real_19 : decode cL_real 19 = .ok (.ireturn, 1) := by decide +kernel
theorem dL_row_0 : decode cL_row 0 = .ok (.aload_n 2, 1) := by decide +kernel
theorem dL_row_1 : decode cL_row 1 = .ok (.iconst 0, 1) := by decide +kernel
theorem dL_row_2 : decode cL_row 2 = .ok (.aload_n 0, 1) := by decide +kernel
theorem dL_row_3 : decode cL_row 3 = .ok (.iload_n 1, 1) := by decide +kernel
theorem dL_row_4 : decode cL_row 4 = .ok (.invokevirtual 51, 3) := by decide +kernel
theorem dL_row_7 : decode cL_row 7 = .ok (.i2l, 1) := by decide +kernel
theorem dL_row_8 : decode cL_row 8 = .ok (.lastore, 1) := by decide +kernel
theorem dL_row_9 : decode cL_row 9 = .ok (.goto 9, 3) := by decide +kernel
theorem dL_row_12 : decode cL_row 12 = .ok (.astore_n 3, 1) := by decide +kernel
theorem dL_row_13 : decode cL_row 13 = .ok (.iconst 1, 1) := by decide +kernel
theorem dL_row_14 : decode cL_row 14 = .ok (.ireturn, 1) := by decide +kernel
theorem dL_row_15 : decode cL_row 15 = .ok (.astore_n 3, 1) := by decide +kernel
theorem dL_row_16 : decode cL_row 16 = .ok (.iconst 2, 1) := by decide +kernel
theorem dL_row_17 : decode cL_row 17 = .ok (.ireturn, 1) := by decide +kernel
theorem dL_row_18 : decode cL_row 18 = .ok (.iconst 0, 1) := by decide +kernel
theorem dL_row_19 : decode cL_row 19 = .ok (.ireturn, 1) := by decide +kernel
theorem dL_extension_0 : decode cL_extension 0 = .ok (.aload_n 2, 1) := by decide +kernel
theorem dL_extension_1 : decode cL_extension 1 = .ok (.iconst 0, 1) := by decide +kernel
theorem dL_extension_2 : decode cL_extension 2 = .ok (.aload_n 0, 1) := by decide +kernel
theorem dL_extension_3 : decode cL_extension 3 = .ok (.iload_n 1, 1) := by decide +kernel
theorem dL_extension_4 : decode cL_extension 4 = .ok (.invokevirtual 54, 3) := by decide +kernel
theorem dL_extension_7 : decode cL_extension 7 = .ok (.i2l, 1) := by decide +kernel
theorem dL_extension_8 : decode cL_extension 8 = .ok (.lastore, 1) := by decide +kernel
theorem dL_extension_9 : decode cL_extension 9 = .ok (.goto 9, 3) := by decide +kernel
theorem dL_extension_12 : decode cL_extension 12 = .ok (.astore_n 3, 1) := by decide +kernel
theorem dL_extension_13 : decode cL_extension 13 = .ok (.iconst 1, 1) := by decide +kernel
theorem dL_extension_14 : decode cL_extension 14 = .ok (.ireturn, 1) := by decide +kernel
theorem dL_extension_15 : decode cL_extension 15 = .ok (.astore_n 3, 1) := by decide +kernel
theorem dL_extension_16 : decode cL_extension 16 = .ok (.iconst 2, 1) := by decide +kernel
theorem dL_extension_17 : decode cL_extension 17 = .ok (.ireturn, 1) := by decide +kernel
theorem dL_extension_18 : decode cL_extension 18 = .ok (.iconst 0, 1) := by decide +kernel
theorem dL_extension_19 : decode cL_extension 19 = .ok (.ireturn, 1) := by decide +kernel
theorem dL_time_0 : decode cL_time 0 = .ok (.aload 4, 2) := by decide +kernel
theorem dL_time_2 : decode cL_time 2 = .ok (.iconst 0, 1) := by decide +kernel
theorem dL_time_3 : decode cL_time 3 = .ok (.aload_n 0, 1) := by decide +kernel
theorem dL_time_4 : decode cL_time 4 = .ok (.lload_n 1, 1) := by decide +kernel
theorem dL_time_5 : decode cL_time 5 = .ok (.iload_n 3, 1) := by decide +kernel
theorem dL_time_6 : decode cL_time 6 = .ok (.invokevirtual 57, 3) := by decide +kernel
theorem dL_time_9 : decode cL_time 9 = .ok (.i2l, 1) := by decide +kernel
theorem dL_time_10 : decode cL_time 10 = .ok (.lastore, 1) := by decide +kernel
theorem dL_time_11 : decode cL_time 11 = .ok (.goto 11, 3) := by decide +kernel
theorem dL_time_14 : decode cL_time 14 = .ok (.astore 5, 2) := by decide +kernel
theorem dL_time_16 : decode cL_time 16 = .ok (.iconst 1, 1) := by decide +kernel
theorem dL_time_17 : decode cL_time 17 = .ok (.ireturn, 1) := by decide +kernel
theorem dL_time_18 : decode cL_time 18 = .ok (.astore 5, 2) := by decide +kernel
theorem dL_time_20 : decode cL_time 20 = .ok (.iconst 2, 1) := by decide +kernel
theorem dL_time_21 : decode cL_time 21 = .ok (.ireturn, 1) := by decide +kernel
theorem dL_time_22 : decode cL_time 22 = .ok (.iconst 0, 1) := by decide +kernel
theorem dL_time_23 : decode cL_time 23 = .ok (.ireturn, 1) := by decide +kernel
theorem dL_group_0 : decode cL_group 0 = .ok (.aload_n 2, 1) := by decide +kernel
theorem dL_group_1 : decode cL_group 1 = .ok (.iconst 0, 1) := by decide +kernel
theorem dL_group_2 : decode cL_group 2 = .ok (.aload_n 0, 1) := by decide +kernel
theorem dL_group_3 : decode cL_group 3 = .ok (.iload_n 1, 1) := by decide +kernel
theorem dL_group_4 : decode cL_group 4 = .ok (.invokevirtual 61, 3) := by decide +kernel
theorem dL_group_7 : decode cL_group 7 = .ok (.i2l, 1) := by decide +kernel
theorem dL_group_8 : decode cL_group 8 = .ok (.lastore, 1) := by decide +kernel
theorem dL_group_9 : decode cL_group 9 = .ok (.goto 9, 3) := by decide +kernel
theorem dL_group_12 : decode cL_group 12 = .ok (.astore_n 3, 1) := by decide +kernel
theorem dL_group_13 : decode cL_group 13 = .ok (.iconst 1, 1) := by decide +kernel
theorem dL_group_14 : decode cL_group 14 = .ok (.ireturn, 1) := by decide +kernel
theorem dL_group_15 : decode cL_group 15 = .ok (.astore_n 3, 1) := by decide +kernel
theorem dL_group_16 : decode cL_group 16 = .ok (.iconst 2, 1) := by decide +kernel
theorem dL_group_17 : decode cL_group 17 = .ok (.ireturn, 1) := by decide +kernel
theorem dL_group_18 : decode cL_group 18 = .ok (.iconst 0, 1) := by decide +kernel
theorem dL_group_19 : decode cL_group 19 = .ok (.ireturn, 1) := by decide +kernel
theorem dL_add_0 : decode cL_add 0 = .ok (.aload_n 3, 1) := by decide +kernel
theorem dL_add_1 : decode cL_add 1 = .ok (.iconst 0, 1) := by decide +kernel
theorem dL_add_2 : decode cL_add 2 = .ok (.aload_n 0, 1) := by decide +kernel
theorem dL_add_3 : decode cL_add 3 = .ok (.iload_n 1, 1) := by decide +kernel
theorem dL_add_4 : decode cL_add 4 = .ok (.iload_n 2, 1) := by decide +kernel
theorem dL_add_5 : decode cL_add 5 = .ok (.invokevirtual 64, 3) := by decide +kernel
theorem dL_add_8 : decode cL_add 8 = .ok (.i2l, 1) := by decide +kernel
theorem dL_add_9 : decode cL_add 9 = .ok (.lastore, 1) := by decide +kernel
theorem dL_add_10 : decode cL_add 10 = .ok (.goto 15, 3) := by decide +kernel
theorem dL_add_13 : decode cL_add 13 = .ok (.astore 4, 2) := by decide +kernel
theorem dL_add_15 : decode cL_add 15 = .ok (.iconst 1, 1) := by decide +kernel
theorem dL_add_16 : decode cL_add 16 = .ok (.ireturn, 1) := by decide +kernel
theorem dL_add_17 : decode cL_add 17 = .ok (.astore 4, 2) := by decide +kernel
theorem dL_add_19 : decode cL_add 19 = .ok (.iconst 2, 1) := by decide +kernel
theorem dL_add_20 : decode cL_add 20 = .ok (.ireturn, 1) := by decide +kernel
theorem dL_add_21 : decode cL_add 21 = .ok (.astore 4, 2) := by decide +kernel
theorem dL_add_23 : decode cL_add 23 = .ok (.iconst 3, 1) := by decide +kernel
theorem dL_add_24 : decode cL_add 24 = .ok (.ireturn, 1) := by decide +kernel
theorem dL_add_25 : decode cL_add 25 = .ok (.iconst 0, 1) := by decide +kernel
theorem dL_add_26 : decode cL_add 26 = .ok (.ireturn, 1) := by decide +kernel
theorem dL_put_0 : decode cL_put 0 = .ok (.aload 4, 2) := by decide +kernel
theorem dL_put_2 : decode cL_put 2 = .ok (.iconst 0, 1) := by decide +kernel
theorem dL_put_3 : decode cL_put 3 = .ok (.aload_n 0, 1) := by decide +kernel
theorem dL_put_4 : decode cL_put 4 = .ok (.iload_n 1, 1) := by decide +kernel
theorem dL_put_5 : decode cL_put 5 = .ok (.iload_n 2, 1) := by decide +kernel
theorem dL_put_6 : decode cL_put 6 = .ok (.iload_n 3, 1) := by decide +kernel
theorem dL_put_7 : decode cL_put 7 = .ok (.invokevirtual 68, 3) := by decide +kernel
theorem dL_put_10 : decode cL_put 10 = .ok (.i2l, 1) := by decide +kernel
theorem dL_put_11 : decode cL_put 11 = .ok (.lastore, 1) := by decide +kernel
theorem dL_put_12 : decode cL_put 12 = .ok (.goto 15, 3) := by decide +kernel
theorem dL_put_15 : decode cL_put 15 = .ok (.astore 5, 2) := by decide +kernel
theorem dL_put_17 : decode cL_put 17 = .ok (.iconst 1, 1) := by decide +kernel
theorem dL_put_18 : decode cL_put 18 = .ok (.ireturn, 1) := by decide +kernel
theorem dL_put_19 : decode cL_put 19 = .ok (.astore 5, 2) := by decide +kernel
theorem dL_put_21 : decode cL_put 21 = .ok (.iconst 2, 1) := by decide +kernel
theorem dL_put_22 : decode cL_put 22 = .ok (.ireturn, 1) := by decide +kernel
theorem dL_put_23 : decode cL_put 23 = .ok (.astore 5, 2) := by decide +kernel
theorem dL_put_25 : decode cL_put 25 = .ok (.iconst 3, 1) := by decide +kernel
theorem dL_put_26 : decode cL_put 26 = .ok (.ireturn, 1) := by decide +kernel
theorem dL_put_27 : decode cL_put 27 = .ok (.iconst 0, 1) := by decide +kernel
theorem dL_put_28 : decode cL_put 28 = .ok (.ireturn, 1) := by decide +kernel
theorem dL_about_0 : decode cL_about 0 = .ok (.aload_n 3, 1) := by decide +kernel
theorem dL_about_1 : decode cL_about 1 = .ok (.iconst 0, 1) := by decide +kernel
theorem dL_about_2 : decode cL_about 2 = .ok (.aload_n 0, 1) := by decide +kernel
theorem dL_about_3 : decode cL_about 3 = .ok (.iload_n 1, 1) := by decide +kernel
theorem dL_about_4 : decode cL_about 4 = .ok (.iload_n 2, 1) := by decide +kernel
theorem dL_about_5 : decode cL_about 5 = .ok (.invokevirtual 72, 3) := by decide +kernel
theorem dL_about_8 : decode cL_about 8 = .ok (.i2l, 1) := by decide +kernel
theorem dL_about_9 : decode cL_about 9 = .ok (.lastore, 1) := by decide +kernel
theorem dL_about_10 : decode cL_about 10 = .ok (.goto 11, 3) := by decide +kernel
theorem dL_about_13 : decode cL_about 13 = .ok (.astore 4, 2) := by decide +kernel
theorem dL_about_15 : decode cL_about 15 = .ok (.iconst 1, 1) := by decide +kernel
theorem dL_about_16 : decode cL_about 16 = .ok (.ireturn, 1) := by decide +kernel
theorem dL_about_17 : decode cL_about 17 = .ok (.astore 4, 2) := by decide +kernel
theorem dL_about_19 : decode cL_about 19 = .ok (.iconst 2, 1) := by decide +kernel
theorem dL_about_20 : decode cL_about 20 = .ok (.ireturn, 1) := by decide +kernel
theorem dL_about_21 : decode cL_about 21 = .ok (.iconst 0, 1) := by decide +kernel
theorem dL_about_22 : decode cL_about 22 = .ok (.ireturn, 1) := by decide +kernel
theorem dL_number_0 : decode cL_number 0 = .ok (.aload_n 2, 1) := by decide +kernel
theorem dL_number_1 : decode cL_number 1 = .ok (.iconst 0, 1) := by decide +kernel
theorem dL_number_2 : decode cL_number 2 = .ok (.aload_n 0, 1) := by decide +kernel
theorem dL_number_3 : decode cL_number 3 = .ok (.iload_n 1, 1) := by decide +kernel
theorem dL_number_4 : decode cL_number 4 = .ok (.invokevirtual 75, 3) := by decide +kernel
theorem dL_number_7 : decode cL_number 7 = .ok (.lastore, 1) := by decide +kernel
theorem dL_number_8 : decode cL_number 8 = .ok (.goto 12, 3) := by decide +kernel
theorem dL_number_11 : decode cL_number 11 = .ok (.astore_n 3, 1) := by decide +kernel
theorem dL_number_12 : decode cL_number 12 = .ok (.iconst 1, 1) := by decide +kernel
theorem dL_number_13 : decode cL_number 13 = .ok (.ireturn, 1) := by decide +kernel
theorem dL_number_14 : decode cL_number 14 = .ok (.astore_n 3, 1) := by decide +kernel
theorem dL_number_15 : decode cL_number 15 = .ok (.iconst 2, 1) := by decide +kernel
theorem dL_number_16 : decode cL_number 16 = .ok (.ireturn, 1) := by decide +kernel
theorem dL_number_17 : decode cL_number 17 = .ok (.astore_n 3, 1) := by decide +kernel
theorem dL_number_18 : decode cL_number 18 = .ok (.iconst 3, 1) := by decide +kernel
theorem dL_number_19 : decode cL_number 19 = .ok (.ireturn, 1) := by decide +kernel
theorem dL_number_20 : decode cL_number 20 = .ok (.iconst 0, 1) := by decide +kernel
theorem dL_number_21 : decode cL_number 21 = .ok (.ireturn, 1) := by decide +kernel
theorem dL_part_0 : decode cL_part 0 = .ok (.aload_n 3, 1) := by decide +kernel
theorem dL_part_1 : decode cL_part 1 = .ok (.iconst 0, 1) := by decide +kernel
theorem dL_part_2 : decode cL_part 2 = .ok (.aload_n 0, 1) := by decide +kernel
theorem dL_part_3 : decode cL_part 3 = .ok (.iload_n 1, 1) := by decide +kernel
theorem dL_part_4 : decode cL_part 4 = .ok (.iload_n 2, 1) := by decide +kernel
theorem dL_part_5 : decode cL_part 5 = .ok (.invokevirtual 81, 3) := by decide +kernel
theorem dL_part_8 : decode cL_part 8 = .ok (.i2l, 1) := by decide +kernel
theorem dL_part_9 : decode cL_part 9 = .ok (.lastore, 1) := by decide +kernel
theorem dL_part_10 : decode cL_part 10 = .ok (.goto 7, 3) := by decide +kernel
theorem dL_part_13 : decode cL_part 13 = .ok (.astore 4, 2) := by decide +kernel
theorem dL_part_15 : decode cL_part 15 = .ok (.iconst 1, 1) := by decide +kernel
theorem dL_part_16 : decode cL_part 16 = .ok (.ireturn, 1) := by decide +kernel
theorem dL_part_17 : decode cL_part 17 = .ok (.iconst 0, 1) := by decide +kernel
theorem dL_part_18 : decode cL_part 18 = .ok (.ireturn, 1) := by decide +kernel
theorem dL_same_0 : decode cL_same 0 = .ok (.aload_n 3, 1) := by decide +kernel
theorem dL_same_1 : decode cL_same 1 = .ok (.iconst 0, 1) := by decide +kernel
theorem dL_same_2 : decode cL_same 2 = .ok (.aload_n 0, 1) := by decide +kernel
theorem dL_same_3 : decode cL_same 3 = .ok (.iload_n 1, 1) := by decide +kernel
theorem dL_same_4 : decode cL_same 4 = .ok (.iload_n 2, 1) := by decide +kernel
theorem dL_same_5 : decode cL_same 5 = .ok (.invokevirtual 84, 3) := by decide +kernel
theorem dL_same_8 : decode cL_same 8 = .ok (.ifCond .eq 7, 3) := by decide +kernel
theorem dL_same_11 : decode cL_same 11 = .ok (.lconst 1, 1) := by decide +kernel
theorem dL_same_12 : decode cL_same 12 = .ok (.goto 4, 3) := by decide +kernel
theorem dL_same_15 : decode cL_same 15 = .ok (.lconst 0, 1) := by decide +kernel
theorem dL_same_16 : decode cL_same 16 = .ok (.lastore, 1) := by decide +kernel
theorem dL_same_17 : decode cL_same 17 = .ok (.goto 11, 3) := by decide +kernel
theorem dL_same_20 : decode cL_same 20 = .ok (.astore 4, 2) := by decide +kernel
theorem dL_same_22 : decode cL_same 22 = .ok (.iconst 1, 1) := by decide +kernel
theorem dL_same_23 : decode cL_same 23 = .ok (.ireturn, 1) := by decide +kernel
theorem dL_same_24 : decode cL_same 24 = .ok (.astore 4, 2) := by decide +kernel
theorem dL_same_26 : decode cL_same 26 = .ok (.iconst 2, 1) := by decide +kernel
theorem dL_same_27 : decode cL_same 27 = .ok (.ireturn, 1) := by decide +kernel
theorem dL_same_28 : decode cL_same 28 = .ok (.iconst 0, 1) := by decide +kernel
theorem dL_same_29 : decode cL_same 29 = .ok (.ireturn, 1) := by decide +kernel
theorem dL_find_0 : decode cL_find 0 = .ok (.aload_n 3, 1) := by decide +kernel
theorem dL_find_1 : decode cL_find 1 = .ok (.iconst 0, 1) := by decide +kernel
theorem dL_find_2 : decode cL_find 2 = .ok (.aload_n 0, 1) := by decide +kernel
theorem dL_find_3 : decode cL_find 3 = .ok (.iload_n 1, 1) := by decide +kernel
theorem dL_find_4 : decode cL_find 4 = .ok (.iload_n 2, 1) := by decide +kernel
theorem dL_find_5 : decode cL_find 5 = .ok (.invokevirtual 88, 3) := by decide +kernel
theorem dL_find_8 : decode cL_find 8 = .ok (.i2l, 1) := by decide +kernel
theorem dL_find_9 : decode cL_find 9 = .ok (.lastore, 1) := by decide +kernel
theorem dL_find_10 : decode cL_find 10 = .ok (.goto 15, 3) := by decide +kernel
theorem dL_find_13 : decode cL_find 13 = .ok (.astore 4, 2) := by decide +kernel
theorem dL_find_15 : decode cL_find 15 = .ok (.iconst 1, 1) := by decide +kernel
theorem dL_find_16 : decode cL_find 16 = .ok (.ireturn, 1) := by decide +kernel
theorem dL_find_17 : decode cL_find 17 = .ok (.astore 4, 2) := by decide +kernel
theorem dL_find_19 : decode cL_find 19 = .ok (.iconst 2, 1) := by decide +kernel
theorem dL_find_20 : decode cL_find 20 = .ok (.ireturn, 1) := by decide +kernel
theorem dL_find_21 : decode cL_find 21 = .ok (.astore 4, 2) := by decide +kernel
theorem dL_find_23 : decode cL_find 23 = .ok (.iconst 3, 1) := by decide +kernel
theorem dL_find_24 : decode cL_find 24 = .ok (.ireturn, 1) := by decide +kernel
theorem dL_find_25 : decode cL_find 25 = .ok (.iconst 0, 1) := by decide +kernel
theorem dL_find_26 : decode cL_find 26 = .ok (.ireturn, 1) := by decide +kernel
theorem dL_count_0 : decode cL_count 0 = .ok (.aload_n 2, 1) := by decide +kernel
theorem dL_count_1 : decode cL_count 1 = .ok (.iconst 0, 1) := by decide +kernel
theorem dL_count_2 : decode cL_count 2 = .ok (.aload_n 0, 1) := by decide +kernel
theorem dL_count_3 : decode cL_count 3 = .ok (.iload_n 1, 1) := by decide +kernel
theorem dL_count_4 : decode cL_count 4 = .ok (.invokevirtual 91, 3) := by decide +kernel
theorem dL_count_7 : decode cL_count 7 = .ok (.i2l, 1) := by decide +kernel
theorem dL_count_8 : decode cL_count 8 = .ok (.lastore, 1) := by decide +kernel
theorem dL_count_9 : decode cL_count 9 = .ok (.goto 6, 3) := by decide +kernel
theorem dL_count_12 : decode cL_count 12 = .ok (.astore_n 3, 1) := by decide +kernel
theorem dL_count_13 : decode cL_count 13 = .ok (.iconst 1, 1) := by decide +kernel
theorem dL_count_14 : decode cL_count 14 = .ok (.ireturn, 1) := by decide +kernel
theorem dL_count_15 : decode cL_count 15 = .ok (.iconst 0, 1) := by decide +kernel
theorem dL_count_16 : decode cL_count 16 = .ok (.ireturn, 1) := by decide +kernel
theorem dL_law_0 : decode cL_law 0 = .ok (.new 8, 3) := by decide +kernel
theorem dL_law_3 : decode cL_law 3 = .ok (.dup, 1) := by decide +kernel
theorem dL_law_4 : decode cL_law 4 = .ok (.invokespecial 94, 3) := by decide +kernel
theorem dL_law_7 : decode cL_law 7 = .ok (.astore_n 1, 1) := by decide +kernel
theorem dL_law_8 : decode cL_law 8 = .ok (.new 95, 3) := by decide +kernel
theorem dL_law_11 : decode cL_law 11 = .ok (.dup, 1) := by decide +kernel
theorem dL_law_12 : decode cL_law 12 = .ok (.invokespecial 97, 3) := by decide +kernel
theorem dL_law_15 : decode cL_law 15 = .ok (.astore_n 2, 1) := by decide +kernel
theorem dL_law_16 : decode cL_law 16 = .ok (.iconst 1, 1) := by decide +kernel
theorem dL_law_17 : decode cL_law 17 = .ok (.newarray .long, 2) := by decide +kernel
theorem dL_law_19 : decode cL_law 19 = .ok (.astore_n 3, 1) := by decide +kernel
theorem dL_law_20 : decode cL_law 20 = .ok (.iconst 0, 1) := by decide +kernel
theorem dL_law_21 : decode cL_law 21 = .ok (.istore 4, 2) := by decide +kernel
theorem dL_law_23 : decode cL_law 23 = .ok (.iload 4, 2) := by decide +kernel
theorem dL_law_25 : decode cL_law 25 = .ok (.aload_n 0, 1) := by decide +kernel
theorem dL_law_26 : decode cL_law 26 = .ok (.arraylength, 1) := by decide +kernel
theorem dL_law_27 : decode cL_law 27 = .ok (.bipush 6, 2) := by decide +kernel
theorem dL_law_29 : decode cL_law 29 = .ok (.isub, 1) := by decide +kernel
theorem dL_law_30 : decode cL_law 30 = .ok (.if_icmp .gt 1672, 3) := by decide +kernel
theorem dL_law_33 : decode cL_law 33 = .ok (.aload_n 0, 1) := by decide +kernel
theorem dL_law_34 : decode cL_law 34 = .ok (.iload 4, 2) := by decide +kernel
theorem dL_law_36 : decode cL_law 36 = .ok (.iaload, 1) := by decide +kernel
theorem dL_law_37 : decode cL_law 37 = .ok (.bipush 31, 2) := by decide +kernel
theorem dL_law_39 : decode cL_law 39 = .ok (.iand, 1) := by decide +kernel
theorem dL_law_40 : decode cL_law 40 = .ok (.tableswitch 1656 0 23 #[112, 216, 252, 265, 321, 377, 433, 489, 533, 605, 721, 837, 893, 949, 1049, 1105, 1173, 1253, 1321, 1376, 1444, 1519, 1587, 1643], 112) := by decide +kernel
theorem dL_law_152 : decode cL_law 152 = .ok (.aload_n 1, 1) := by decide +kernel
theorem dL_law_153 : decode cL_law 153 = .ok (.aload_n 0, 1) := by decide +kernel
theorem dL_law_154 : decode cL_law 154 = .ok (.iload 4, 2) := by decide +kernel
theorem dL_law_156 : decode cL_law 156 = .ok (.iconst 1, 1) := by decide +kernel
theorem dL_law_157 : decode cL_law 157 = .ok (.iadd, 1) := by decide +kernel
theorem dL_law_158 : decode cL_law 158 = .ok (.iaload, 1) := by decide +kernel
theorem dL_law_159 : decode cL_law 159 = .ok (.aload_n 0, 1) := by decide +kernel
theorem dL_law_160 : decode cL_law 160 = .ok (.iload 4, 2) := by decide +kernel
theorem dL_law_162 : decode cL_law 162 = .ok (.iconst 2, 1) := by decide +kernel
theorem dL_law_163 : decode cL_law 163 = .ok (.iadd, 1) := by decide +kernel
theorem dL_law_164 : decode cL_law 164 = .ok (.iaload, 1) := by decide +kernel
theorem dL_law_165 : decode cL_law 165 = .ok (.aload_n 0, 1) := by decide +kernel
theorem dL_law_166 : decode cL_law 166 = .ok (.iload 4, 2) := by decide +kernel
theorem dL_law_168 : decode cL_law 168 = .ok (.iconst 3, 1) := by decide +kernel
theorem dL_law_169 : decode cL_law 169 = .ok (.iadd, 1) := by decide +kernel
theorem dL_law_170 : decode cL_law 170 = .ok (.iaload, 1) := by decide +kernel
theorem dL_law_171 : decode cL_law 171 = .ok (.aload_n 0, 1) := by decide +kernel
theorem dL_law_172 : decode cL_law 172 = .ok (.iload 4, 2) := by decide +kernel
theorem dL_law_174 : decode cL_law 174 = .ok (.iconst 4, 1) := by decide +kernel
theorem dL_law_175 : decode cL_law 175 = .ok (.iadd, 1) := by decide +kernel
theorem dL_law_176 : decode cL_law 176 = .ok (.iaload, 1) := by decide +kernel
theorem dL_law_177 : decode cL_law 177 = .ok (.aload_n 0, 1) := by decide +kernel
theorem dL_law_178 : decode cL_law 178 = .ok (.iload 4, 2) := by decide +kernel
theorem dL_law_180 : decode cL_law 180 = .ok (.iconst 5, 1) := by decide +kernel
theorem dL_law_181 : decode cL_law 181 = .ok (.iadd, 1) := by decide +kernel
theorem dL_law_182 : decode cL_law 182 = .ok (.iaload, 1) := by decide +kernel
theorem dL_law_183 : decode cL_law 183 = .ok (.aload_n 3, 1) := by decide +kernel
theorem dL_law_184 : decode cL_law 184 = .ok (.invokestatic 98, 3) := by decide +kernel
theorem dL_law_187 : decode cL_law 187 = .ok (.istore 5, 2) := by decide +kernel
theorem dL_law_189 : decode cL_law 189 = .ok (.aload_n 2, 1) := by decide +kernel
theorem dL_law_190 : decode cL_law 190 = .ok (.aload_n 0, 1) := by decide +kernel
theorem dL_law_191 : decode cL_law 191 = .ok (.iload 4, 2) := by decide +kernel
theorem dL_law_193 : decode cL_law 193 = .ok (.iconst 1, 1) := by decide +kernel
theorem dL_law_194 : decode cL_law 194 = .ok (.iadd, 1) := by decide +kernel
theorem dL_law_195 : decode cL_law 195 = .ok (.iaload, 1) := by decide +kernel
theorem dL_law_196 : decode cL_law 196 = .ok (.aload_n 0, 1) := by decide +kernel
theorem dL_law_197 : decode cL_law 197 = .ok (.iload 4, 2) := by decide +kernel
theorem dL_law_199 : decode cL_law 199 = .ok (.iconst 2, 1) := by decide +kernel
theorem dL_law_200 : decode cL_law 200 = .ok (.iadd, 1) := by decide +kernel
theorem dL_law_201 : decode cL_law 201 = .ok (.iaload, 1) := by decide +kernel
theorem dL_law_202 : decode cL_law 202 = .ok (.aload_n 0, 1) := by decide +kernel
theorem dL_law_203 : decode cL_law 203 = .ok (.iload 4, 2) := by decide +kernel
theorem dL_law_205 : decode cL_law 205 = .ok (.iconst 3, 1) := by decide +kernel
theorem dL_law_206 : decode cL_law 206 = .ok (.iadd, 1) := by decide +kernel
theorem dL_law_207 : decode cL_law 207 = .ok (.iaload, 1) := by decide +kernel
theorem dL_law_208 : decode cL_law 208 = .ok (.aload_n 0, 1) := by decide +kernel
theorem dL_law_209 : decode cL_law 209 = .ok (.iload 4, 2) := by decide +kernel
theorem dL_law_211 : decode cL_law 211 = .ok (.iconst 4, 1) := by decide +kernel
theorem dL_law_212 : decode cL_law 212 = .ok (.iadd, 1) := by decide +kernel
theorem dL_law_213 : decode cL_law 213 = .ok (.iaload, 1) := by decide +kernel
theorem dL_law_214 : decode cL_law 214 = .ok (.aload_n 0, 1) := by decide +kernel
theorem dL_law_215 : decode cL_law 215 = .ok (.iload 4, 2) := by decide +kernel
theorem dL_law_217 : decode cL_law 217 = .ok (.iconst 5, 1) := by decide +kernel
theorem dL_law_218 : decode cL_law 218 = .ok (.iadd, 1) := by decide +kernel
theorem dL_law_219 : decode cL_law 219 = .ok (.iaload, 1) := by decide +kernel
theorem dL_law_220 : decode cL_law 220 = .ok (.invokevirtual 103, 3) := by decide +kernel
theorem dL_law_223 : decode cL_law 223 = .ok (.istore 6, 2) := by decide +kernel
theorem dL_law_225 : decode cL_law 225 = .ok (.aload_n 2, 1) := by decide +kernel
theorem dL_law_226 : decode cL_law 226 = .ok (.invokevirtual 104, 3) := by decide +kernel
theorem dL_law_229 : decode cL_law 229 = .ok (.iload 5, 2) := by decide +kernel
theorem dL_law_231 : decode cL_law 231 = .ok (.if_icmp .eq 5, 3) := by decide +kernel
theorem dL_law_234 : decode cL_law 234 = .ok (.iconst 0, 1) := by decide +kernel
theorem dL_law_235 : decode cL_law 235 = .ok (.ireturn, 1) := by decide +kernel
theorem dL_law_236 : decode cL_law 236 = .ok (.iload 5, 2) := by decide +kernel
theorem dL_law_238 : decode cL_law 238 = .ok (.ifCond .ne 15, 3) := by decide +kernel
theorem dL_law_241 : decode cL_law 241 = .ok (.aload_n 3, 1) := by decide +kernel
theorem dL_law_242 : decode cL_law 242 = .ok (.iconst 0, 1) := by decide +kernel
theorem dL_law_243 : decode cL_law 243 = .ok (.laload, 1) := by decide +kernel
theorem dL_law_244 : decode cL_law 244 = .ok (.iload 6, 2) := by decide +kernel
theorem dL_law_246 : decode cL_law 246 = .ok (.i2l, 1) := by decide +kernel
theorem dL_law_247 : decode cL_law 247 = .ok (.lcmp, 1) := by decide +kernel
theorem dL_law_248 : decode cL_law 248 = .ok (.ifCond .eq 5, 3) := by decide +kernel
theorem dL_law_251 : decode cL_law 251 = .ok (.iconst 0, 1) := by decide +kernel
theorem dL_law_252 : decode cL_law 252 = .ok (.ireturn, 1) := by decide +kernel
theorem dL_law_253 : decode cL_law 253 = .ok (.goto 1443, 3) := by decide +kernel
theorem dL_law_256 : decode cL_law 256 = .ok (.aload_n 1, 1) := by decide +kernel
theorem dL_law_257 : decode cL_law 257 = .ok (.aload_n 0, 1) := by decide +kernel
theorem dL_law_258 : decode cL_law 258 = .ok (.iload 4, 2) := by decide +kernel
theorem dL_law_260 : decode cL_law 260 = .ok (.iconst 1, 1) := by decide +kernel
theorem dL_law_261 : decode cL_law 261 = .ok (.iadd, 1) := by decide +kernel
theorem dL_law_262 : decode cL_law 262 = .ok (.iaload, 1) := by decide +kernel
theorem dL_law_263 : decode cL_law 263 = .ok (.invokestatic 107, 3) := by decide +kernel
theorem dL_law_266 : decode cL_law 266 = .ok (.istore 5, 2) := by decide +kernel
theorem dL_law_268 : decode cL_law 268 = .ok (.aload_n 2, 1) := by decide +kernel
theorem dL_law_269 : decode cL_law 269 = .ok (.aload_n 0, 1) := by decide +kernel
theorem dL_law_270 : decode cL_law 270 = .ok (.iload 4, 2) := by decide +kernel
theorem dL_law_272 : decode cL_law 272 = .ok (.iconst 1, 1) := by decide +kernel
theorem dL_law_273 : decode cL_law 273 = .ok (.iadd, 1) := by decide +kernel
theorem dL_law_274 : decode cL_law 274 = .ok (.iaload, 1) := by decide +kernel
theorem dL_law_275 : decode cL_law 275 = .ok (.invokevirtual 110, 3) := by decide +kernel
theorem dL_law_278 : decode cL_law 278 = .ok (.aload_n 2, 1) := by decide +kernel
theorem dL_law_279 : decode cL_law 279 = .ok (.invokevirtual 104, 3) := by decide +kernel
theorem dL_law_282 : decode cL_law 282 = .ok (.iload 5, 2) := by decide +kernel
theorem dL_law_284 : decode cL_law 284 = .ok (.if_icmp .eq 5, 3) := by decide +kernel
theorem dL_law_287 : decode cL_law 287 = .ok (.iconst 0, 1) := by decide +kernel
theorem dL_law_288 : decode cL_law 288 = .ok (.ireturn, 1) := by decide +kernel
theorem dL_law_289 : decode cL_law 289 = .ok (.goto 1407, 3) := by decide +kernel
theorem dL_law_292 : decode cL_law 292 = .ok (.aload_n 1, 1) := by decide +kernel
theorem dL_law_293 : decode cL_law 293 = .ok (.invokevirtual 111, 3) := by decide +kernel
theorem dL_law_296 : decode cL_law 296 = .ok (.aload_n 2, 1) := by decide +kernel
theorem dL_law_297 : decode cL_law 297 = .ok (.invokevirtual 114, 3) := by decide +kernel
theorem dL_law_300 : decode cL_law 300 = .ok (.if_icmp .eq 1396, 3) := by decide +kernel
theorem dL_law_303 : decode cL_law 303 = .ok (.iconst 0, 1) := by decide +kernel
theorem dL_law_304 : decode cL_law 304 = .ok (.ireturn, 1) := by decide +kernel
theorem dL_law_305 : decode cL_law 305 = .ok (.aload_n 1, 1) := by decide +kernel
theorem dL_law_306 : decode cL_law 306 = .ok (.aload_n 0, 1) := by decide +kernel
theorem dL_law_307 : decode cL_law 307 = .ok (.iload 4, 2) := by decide +kernel
theorem dL_law_309 : decode cL_law 309 = .ok (.iconst 1, 1) := by decide +kernel
theorem dL_law_310 : decode cL_law 310 = .ok (.iadd, 1) := by decide +kernel
theorem dL_law_311 : decode cL_law 311 = .ok (.iaload, 1) := by decide +kernel
theorem dL_law_312 : decode cL_law 312 = .ok (.aload_n 3, 1) := by decide +kernel
theorem dL_law_313 : decode cL_law 313 = .ok (.invokestatic 115, 3) := by decide +kernel
theorem dL_law_316 : decode cL_law 316 = .ok (.istore 5, 2) := by decide +kernel
theorem dL_law_318 : decode cL_law 318 = .ok (.aload_n 2, 1) := by decide +kernel
theorem dL_law_319 : decode cL_law 319 = .ok (.aload_n 0, 1) := by decide +kernel
theorem dL_law_320 : decode cL_law 320 = .ok (.iload 4, 2) := by decide +kernel
theorem dL_law_322 : decode cL_law 322 = .ok (.iconst 1, 1) := by decide +kernel
theorem dL_law_323 : decode cL_law 323 = .ok (.iadd, 1) := by decide +kernel
theorem dL_law_324 : decode cL_law 324 = .ok (.iaload, 1) := by decide +kernel
theorem dL_law_325 : decode cL_law 325 = .ok (.invokevirtual 118, 3) := by decide +kernel
theorem dL_law_328 : decode cL_law 328 = .ok (.istore 6, 2) := by decide +kernel
theorem dL_law_330 : decode cL_law 330 = .ok (.aload_n 2, 1) := by decide +kernel
theorem dL_law_331 : decode cL_law 331 = .ok (.invokevirtual 104, 3) := by decide +kernel
theorem dL_law_334 : decode cL_law 334 = .ok (.iload 5, 2) := by decide +kernel
theorem dL_law_336 : decode cL_law 336 = .ok (.if_icmp .eq 5, 3) := by decide +kernel
theorem dL_law_339 : decode cL_law 339 = .ok (.iconst 0, 1) := by decide +kernel
theorem dL_law_340 : decode cL_law 340 = .ok (.ireturn, 1) := by decide +kernel
theorem dL_law_341 : decode cL_law 341 = .ok (.iload 5, 2) := by decide +kernel
theorem dL_law_343 : decode cL_law 343 = .ok (.ifCond .ne 15, 3) := by decide +kernel
theorem dL_law_346 : decode cL_law 346 = .ok (.aload_n 3, 1) := by decide +kernel
theorem dL_law_347 : decode cL_law 347 = .ok (.iconst 0, 1) := by decide +kernel
theorem dL_law_348 : decode cL_law 348 = .ok (.laload, 1) := by decide +kernel
theorem dL_law_349 : decode cL_law 349 = .ok (.iload 6, 2) := by decide +kernel
theorem dL_law_351 : decode cL_law 351 = .ok (.i2l, 1) := by decide +kernel
theorem dL_law_352 : decode cL_law 352 = .ok (.lcmp, 1) := by decide +kernel
theorem dL_law_353 : decode cL_law 353 = .ok (.ifCond .eq 5, 3) := by decide +kernel
theorem dL_law_356 : decode cL_law 356 = .ok (.iconst 0, 1) := by decide +kernel
theorem dL_law_357 : decode cL_law 357 = .ok (.ireturn, 1) := by decide +kernel
theorem dL_law_358 : decode cL_law 358 = .ok (.goto 1338, 3) := by decide +kernel
theorem dL_law_361 : decode cL_law 361 = .ok (.aload_n 1, 1) := by decide +kernel
theorem dL_law_362 : decode cL_law 362 = .ok (.aload_n 0, 1) := by decide +kernel
theorem dL_law_363 : decode cL_law 363 = .ok (.iload 4, 2) := by decide +kernel
theorem dL_law_365 : decode cL_law 365 = .ok (.iconst 1, 1) := by decide +kernel
theorem dL_law_366 : decode cL_law 366 = .ok (.iadd, 1) := by decide +kernel
theorem dL_law_367 : decode cL_law 367 = .ok (.iaload, 1) := by decide +kernel
theorem dL_law_368 : decode cL_law 368 = .ok (.aload_n 3, 1) := by decide +kernel
theorem dL_law_369 : decode cL_law 369 = .ok (.invokestatic 119, 3) := by decide +kernel
theorem dL_law_372 : decode cL_law 372 = .ok (.istore 5, 2) := by decide +kernel
theorem dL_law_374 : decode cL_law 374 = .ok (.aload_n 2, 1) := by decide +kernel
theorem dL_law_375 : decode cL_law 375 = .ok (.aload_n 0, 1) := by decide +kernel
theorem dL_law_376 : decode cL_law 376 = .ok (.iload 4, 2) := by decide +kernel
theorem dL_law_378 : decode cL_law 378 = .ok (.iconst 1, 1) := by decide +kernel
theorem dL_law_379 : decode cL_law 379 = .ok (.iadd, 1) := by decide +kernel
theorem dL_law_380 : decode cL_law 380 = .ok (.iaload, 1) := by decide +kernel
theorem dL_law_381 : decode cL_law 381 = .ok (.invokevirtual 121, 3) := by decide +kernel
theorem dL_law_384 : decode cL_law 384 = .ok (.istore 6, 2) := by decide +kernel
theorem dL_law_386 : decode cL_law 386 = .ok (.aload_n 2, 1) := by decide +kernel
theorem dL_law_387 : decode cL_law 387 = .ok (.invokevirtual 104, 3) := by decide +kernel
theorem dL_law_390 : decode cL_law 390 = .ok (.iload 5, 2) := by decide +kernel
theorem dL_law_392 : decode cL_law 392 = .ok (.if_icmp .eq 5, 3) := by decide +kernel
theorem dL_law_395 : decode cL_law 395 = .ok (.iconst 0, 1) := by decide +kernel
theorem dL_law_396 : decode cL_law 396 = .ok (.ireturn, 1) := by decide +kernel
theorem dL_law_397 : decode cL_law 397 = .ok (.iload 5, 2) := by decide +kernel
theorem dL_law_399 : decode cL_law 399 = .ok (.ifCond .ne 15, 3) := by decide +kernel
theorem dL_law_402 : decode cL_law 402 = .ok (.aload_n 3, 1) := by decide +kernel
theorem dL_law_403 : decode cL_law 403 = .ok (.iconst 0, 1) := by decide +kernel
theorem dL_law_404 : decode cL_law 404 = .ok (.laload, 1) := by decide +kernel
theorem dL_law_405 : decode cL_law 405 = .ok (.iload 6, 2) := by decide +kernel
theorem dL_law_407 : decode cL_law 407 = .ok (.i2l, 1) := by decide +kernel
theorem dL_law_408 : decode cL_law 408 = .ok (.lcmp, 1) := by decide +kernel
theorem dL_law_409 : decode cL_law 409 = .ok (.ifCond .eq 5, 3) := by decide +kernel
theorem dL_law_412 : decode cL_law 412 = .ok (.iconst 0, 1) := by decide +kernel
theorem dL_law_413 : decode cL_law 413 = .ok (.ireturn, 1) := by decide +kernel
theorem dL_law_414 : decode cL_law 414 = .ok (.goto 1282, 3) := by decide +kernel
theorem dL_law_417 : decode cL_law 417 = .ok (.aload_n 1, 1) := by decide +kernel
theorem dL_law_418 : decode cL_law 418 = .ok (.aload_n 0, 1) := by decide +kernel
theorem dL_law_419 : decode cL_law 419 = .ok (.iload 4, 2) := by decide +kernel
theorem dL_law_421 : decode cL_law 421 = .ok (.iconst 1, 1) := by decide +kernel
theorem dL_law_422 : decode cL_law 422 = .ok (.iadd, 1) := by decide +kernel
theorem dL_law_423 : decode cL_law 423 = .ok (.iaload, 1) := by decide +kernel
theorem dL_law_424 : decode cL_law 424 = .ok (.aload_n 3, 1) := by decide +kernel
theorem dL_law_425 : decode cL_law 425 = .ok (.invokestatic 122, 3) := by decide +kernel
theorem dL_law_428 : decode cL_law 428 = .ok (.istore 5, 2) := by decide +kernel
theorem dL_law_430 : decode cL_law 430 = .ok (.aload_n 2, 1) := by decide +kernel
theorem dL_law_431 : decode cL_law 431 = .ok (.aload_n 0, 1) := by decide +kernel
theorem dL_law_432 : decode cL_law 432 = .ok (.iload 4, 2) := by decide +kernel
theorem dL_law_434 : decode cL_law 434 = .ok (.iconst 1, 1) := by decide +kernel
theorem dL_law_435 : decode cL_law 435 = .ok (.iadd, 1) := by decide +kernel
theorem dL_law_436 : decode cL_law 436 = .ok (.iaload, 1) := by decide +kernel
theorem dL_law_437 : decode cL_law 437 = .ok (.invokevirtual 124, 3) := by decide +kernel
theorem dL_law_440 : decode cL_law 440 = .ok (.istore 6, 2) := by decide +kernel
theorem dL_law_442 : decode cL_law 442 = .ok (.aload_n 2, 1) := by decide +kernel
theorem dL_law_443 : decode cL_law 443 = .ok (.invokevirtual 104, 3) := by decide +kernel
theorem dL_law_446 : decode cL_law 446 = .ok (.iload 5, 2) := by decide +kernel
theorem dL_law_448 : decode cL_law 448 = .ok (.if_icmp .eq 5, 3) := by decide +kernel
theorem dL_law_451 : decode cL_law 451 = .ok (.iconst 0, 1) := by decide +kernel
theorem dL_law_452 : decode cL_law 452 = .ok (.ireturn, 1) := by decide +kernel
theorem dL_law_453 : decode cL_law 453 = .ok (.iload 5, 2) := by decide +kernel
theorem dL_law_455 : decode cL_law 455 = .ok (.ifCond .ne 15, 3) := by decide +kernel
theorem dL_law_458 : decode cL_law 458 = .ok (.aload_n 3, 1) := by decide +kernel
theorem dL_law_459 : decode cL_law 459 = .ok (.iconst 0, 1) := by decide +kernel
theorem dL_law_460 : decode cL_law 460 = .ok (.laload, 1) := by decide +kernel
theorem dL_law_461 : decode cL_law 461 = .ok (.iload 6, 2) := by decide +kernel
theorem dL_law_463 : decode cL_law 463 = .ok (.i2l, 1) := by decide +kernel
theorem dL_law_464 : decode cL_law 464 = .ok (.lcmp, 1) := by decide +kernel
theorem dL_law_465 : decode cL_law 465 = .ok (.ifCond .eq 5, 3) := by decide +kernel
theorem dL_law_468 : decode cL_law 468 = .ok (.iconst 0, 1) := by decide +kernel
theorem dL_law_469 : decode cL_law 469 = .ok (.ireturn, 1) := by decide +kernel
theorem dL_law_470 : decode cL_law 470 = .ok (.goto 1226, 3) := by decide +kernel
theorem dL_law_473 : decode cL_law 473 = .ok (.aload_n 1, 1) := by decide +kernel
theorem dL_law_474 : decode cL_law 474 = .ok (.aload_n 0, 1) := by decide +kernel
theorem dL_law_475 : decode cL_law 475 = .ok (.iload 4, 2) := by decide +kernel
theorem dL_law_477 : decode cL_law 477 = .ok (.iconst 1, 1) := by decide +kernel
theorem dL_law_478 : decode cL_law 478 = .ok (.iadd, 1) := by decide +kernel
theorem dL_law_479 : decode cL_law 479 = .ok (.iaload, 1) := by decide +kernel
theorem dL_law_480 : decode cL_law 480 = .ok (.aload_n 3, 1) := by decide +kernel
theorem dL_law_481 : decode cL_law 481 = .ok (.invokestatic 125, 3) := by decide +kernel
theorem dL_law_484 : decode cL_law 484 = .ok (.istore 5, 2) := by decide +kernel
theorem dL_law_486 : decode cL_law 486 = .ok (.aload_n 2, 1) := by decide +kernel
theorem dL_law_487 : decode cL_law 487 = .ok (.aload_n 0, 1) := by decide +kernel
theorem dL_law_488 : decode cL_law 488 = .ok (.iload 4, 2) := by decide +kernel
theorem dL_law_490 : decode cL_law 490 = .ok (.iconst 1, 1) := by decide +kernel
theorem dL_law_491 : decode cL_law 491 = .ok (.iadd, 1) := by decide +kernel
theorem dL_law_492 : decode cL_law 492 = .ok (.iaload, 1) := by decide +kernel
theorem dL_law_493 : decode cL_law 493 = .ok (.invokevirtual 127, 3) := by decide +kernel
theorem dL_law_496 : decode cL_law 496 = .ok (.istore 6, 2) := by decide +kernel
theorem dL_law_498 : decode cL_law 498 = .ok (.aload_n 2, 1) := by decide +kernel
theorem dL_law_499 : decode cL_law 499 = .ok (.invokevirtual 104, 3) := by decide +kernel
theorem dL_law_502 : decode cL_law 502 = .ok (.iload 5, 2) := by decide +kernel
theorem dL_law_504 : decode cL_law 504 = .ok (.if_icmp .eq 5, 3) := by decide +kernel
theorem dL_law_507 : decode cL_law 507 = .ok (.iconst 0, 1) := by decide +kernel
theorem dL_law_508 : decode cL_law 508 = .ok (.ireturn, 1) := by decide +kernel
theorem dL_law_509 : decode cL_law 509 = .ok (.iload 5, 2) := by decide +kernel
theorem dL_law_511 : decode cL_law 511 = .ok (.ifCond .ne 15, 3) := by decide +kernel
theorem dL_law_514 : decode cL_law 514 = .ok (.aload_n 3, 1) := by decide +kernel
theorem dL_law_515 : decode cL_law 515 = .ok (.iconst 0, 1) := by decide +kernel
theorem dL_law_516 : decode cL_law 516 = .ok (.laload, 1) := by decide +kernel
theorem dL_law_517 : decode cL_law 517 = .ok (.iload 6, 2) := by decide +kernel
theorem dL_law_519 : decode cL_law 519 = .ok (.i2l, 1) := by decide +kernel
theorem dL_law_520 : decode cL_law 520 = .ok (.lcmp, 1) := by decide +kernel
theorem dL_law_521 : decode cL_law 521 = .ok (.ifCond .eq 5, 3) := by decide +kernel
theorem dL_law_524 : decode cL_law 524 = .ok (.iconst 0, 1) := by decide +kernel
theorem dL_law_525 : decode cL_law 525 = .ok (.ireturn, 1) := by decide +kernel
theorem dL_law_526 : decode cL_law 526 = .ok (.goto 1170, 3) := by decide +kernel
theorem dL_law_529 : decode cL_law 529 = .ok (.aload_n 1, 1) := by decide +kernel
theorem dL_law_530 : decode cL_law 530 = .ok (.aload_n 3, 1) := by decide +kernel
theorem dL_law_531 : decode cL_law 531 = .ok (.invokestatic 128, 3) := by decide +kernel
theorem dL_law_534 : decode cL_law 534 = .ok (.istore 5, 2) := by decide +kernel
theorem dL_law_536 : decode cL_law 536 = .ok (.aload_n 2, 1) := by decide +kernel
theorem dL_law_537 : decode cL_law 537 = .ok (.invokevirtual 131, 3) := by decide +kernel
theorem dL_law_540 : decode cL_law 540 = .ok (.istore 6, 2) := by decide +kernel
theorem dL_law_542 : decode cL_law 542 = .ok (.aload_n 2, 1) := by decide +kernel
theorem dL_law_543 : decode cL_law 543 = .ok (.invokevirtual 104, 3) := by decide +kernel
theorem dL_law_546 : decode cL_law 546 = .ok (.iload 5, 2) := by decide +kernel
theorem dL_law_548 : decode cL_law 548 = .ok (.if_icmp .eq 5, 3) := by decide +kernel
theorem dL_law_551 : decode cL_law 551 = .ok (.iconst 0, 1) := by decide +kernel
theorem dL_law_552 : decode cL_law 552 = .ok (.ireturn, 1) := by decide +kernel
theorem dL_law_553 : decode cL_law 553 = .ok (.iload 5, 2) := by decide +kernel
theorem dL_law_555 : decode cL_law 555 = .ok (.ifCond .ne 15, 3) := by decide +kernel
theorem dL_law_558 : decode cL_law 558 = .ok (.aload_n 3, 1) := by decide +kernel
theorem dL_law_559 : decode cL_law 559 = .ok (.iconst 0, 1) := by decide +kernel
theorem dL_law_560 : decode cL_law 560 = .ok (.laload, 1) := by decide +kernel
theorem dL_law_561 : decode cL_law 561 = .ok (.iload 6, 2) := by decide +kernel
theorem dL_law_563 : decode cL_law 563 = .ok (.i2l, 1) := by decide +kernel
theorem dL_law_564 : decode cL_law 564 = .ok (.lcmp, 1) := by decide +kernel
theorem dL_law_565 : decode cL_law 565 = .ok (.ifCond .eq 5, 3) := by decide +kernel
theorem dL_law_568 : decode cL_law 568 = .ok (.iconst 0, 1) := by decide +kernel
theorem dL_law_569 : decode cL_law 569 = .ok (.ireturn, 1) := by decide +kernel
theorem dL_law_570 : decode cL_law 570 = .ok (.goto 1126, 3) := by decide +kernel
theorem dL_law_573 : decode cL_law 573 = .ok (.aload_n 1, 1) := by decide +kernel
theorem dL_law_574 : decode cL_law 574 = .ok (.aload_n 0, 1) := by decide +kernel
theorem dL_law_575 : decode cL_law 575 = .ok (.iload 4, 2) := by decide +kernel
theorem dL_law_577 : decode cL_law 577 = .ok (.iconst 1, 1) := by decide +kernel
theorem dL_law_578 : decode cL_law 578 = .ok (.iadd, 1) := by decide +kernel
theorem dL_law_579 : decode cL_law 579 = .ok (.iaload, 1) := by decide +kernel
theorem dL_law_580 : decode cL_law 580 = .ok (.ifCond .eq 7, 3) := by decide +kernel
theorem dL_law_583 : decode cL_law 583 = .ok (.iconst 1, 1) := by decide +kernel
theorem dL_law_584 : decode cL_law 584 = .ok (.goto 4, 3) := by decide +kernel
theorem dL_law_587 : decode cL_law 587 = .ok (.iconst 0, 1) := by decide +kernel
theorem dL_law_588 : decode cL_law 588 = .ok (.aload_n 3, 1) := by decide +kernel
theorem dL_law_589 : decode cL_law 589 = .ok (.invokestatic 132, 3) := by decide +kernel
theorem dL_law_592 : decode cL_law 592 = .ok (.istore 5, 2) := by decide +kernel
theorem dL_law_594 : decode cL_law 594 = .ok (.aload_n 2, 1) := by decide +kernel
theorem dL_law_595 : decode cL_law 595 = .ok (.aload_n 0, 1) := by decide +kernel
theorem dL_law_596 : decode cL_law 596 = .ok (.iload 4, 2) := by decide +kernel
theorem dL_law_598 : decode cL_law 598 = .ok (.iconst 1, 1) := by decide +kernel
theorem dL_law_599 : decode cL_law 599 = .ok (.iadd, 1) := by decide +kernel
theorem dL_law_600 : decode cL_law 600 = .ok (.iaload, 1) := by decide +kernel
theorem dL_law_601 : decode cL_law 601 = .ok (.ifCond .eq 7, 3) := by decide +kernel
theorem dL_law_604 : decode cL_law 604 = .ok (.iconst 1, 1) := by decide +kernel
theorem dL_law_605 : decode cL_law 605 = .ok (.goto 4, 3) := by decide +kernel
theorem dL_law_608 : decode cL_law 608 = .ok (.iconst 0, 1) := by decide +kernel
theorem dL_law_609 : decode cL_law 609 = .ok (.invokevirtual 135, 3) := by decide +kernel
theorem dL_law_612 : decode cL_law 612 = .ok (.istore 6, 2) := by decide +kernel
theorem dL_law_614 : decode cL_law 614 = .ok (.aload_n 2, 1) := by decide +kernel
theorem dL_law_615 : decode cL_law 615 = .ok (.invokevirtual 104, 3) := by decide +kernel
theorem dL_law_618 : decode cL_law 618 = .ok (.iload 5, 2) := by decide +kernel
theorem dL_law_620 : decode cL_law 620 = .ok (.if_icmp .eq 5, 3) := by decide +kernel
theorem dL_law_623 : decode cL_law 623 = .ok (.iconst 0, 1) := by decide +kernel
theorem dL_law_624 : decode cL_law 624 = .ok (.ireturn, 1) := by decide +kernel
theorem dL_law_625 : decode cL_law 625 = .ok (.iload 5, 2) := by decide +kernel
theorem dL_law_627 : decode cL_law 627 = .ok (.ifCond .ne 15, 3) := by decide +kernel
theorem dL_law_630 : decode cL_law 630 = .ok (.aload_n 3, 1) := by decide +kernel
theorem dL_law_631 : decode cL_law 631 = .ok (.iconst 0, 1) := by decide +kernel
theorem dL_law_632 : decode cL_law 632 = .ok (.laload, 1) := by decide +kernel
theorem dL_law_633 : decode cL_law 633 = .ok (.iload 6, 2) := by decide +kernel
theorem dL_law_635 : decode cL_law 635 = .ok (.i2l, 1) := by decide +kernel
theorem dL_law_636 : decode cL_law 636 = .ok (.lcmp, 1) := by decide +kernel
theorem dL_law_637 : decode cL_law 637 = .ok (.ifCond .eq 5, 3) := by decide +kernel
theorem dL_law_640 : decode cL_law 640 = .ok (.iconst 0, 1) := by decide +kernel
theorem dL_law_641 : decode cL_law 641 = .ok (.ireturn, 1) := by decide +kernel
theorem dL_law_642 : decode cL_law 642 = .ok (.goto 1054, 3) := by decide +kernel
theorem dL_law_645 : decode cL_law 645 = .ok (.aload_n 1, 1) := by decide +kernel
theorem dL_law_646 : decode cL_law 646 = .ok (.aload_n 0, 1) := by decide +kernel
theorem dL_law_647 : decode cL_law 647 = .ok (.iload 4, 2) := by decide +kernel
theorem dL_law_649 : decode cL_law 649 = .ok (.iconst 1, 1) := by decide +kernel
theorem dL_law_650 : decode cL_law 650 = .ok (.iadd, 1) := by decide +kernel
theorem dL_law_651 : decode cL_law 651 = .ok (.iaload, 1) := by decide +kernel
theorem dL_law_652 : decode cL_law 652 = .ok (.i2l, 1) := by decide +kernel
theorem dL_law_653 : decode cL_law 653 = .ok (.bipush 32, 2) := by decide +kernel
theorem dL_law_655 : decode cL_law 655 = .ok (.lshl, 1) := by decide +kernel
theorem dL_law_656 : decode cL_law 656 = .ok (.aload_n 0, 1) := by decide +kernel
theorem dL_law_657 : decode cL_law 657 = .ok (.iload 4, 2) := by decide +kernel
theorem dL_law_659 : decode cL_law 659 = .ok (.iconst 2, 1) := by decide +kernel
theorem dL_law_660 : decode cL_law 660 = .ok (.iadd, 1) := by decide +kernel
theorem dL_law_661 : decode cL_law 661 = .ok (.iaload, 1) := by decide +kernel
theorem dL_law_662 : decode cL_law 662 = .ok (.i2l, 1) := by decide +kernel
theorem dL_law_663 : decode cL_law 663 = .ok (.ldc2_w 136, 3) := by decide +kernel
theorem dL_law_666 : decode cL_law 666 = .ok (.land, 1) := by decide +kernel
theorem dL_law_667 : decode cL_law 667 = .ok (.lor, 1) := by decide +kernel
theorem dL_law_668 : decode cL_law 668 = .ok (.aload_n 0, 1) := by decide +kernel
theorem dL_law_669 : decode cL_law 669 = .ok (.iload 4, 2) := by decide +kernel
theorem dL_law_671 : decode cL_law 671 = .ok (.iconst 3, 1) := by decide +kernel
theorem dL_law_672 : decode cL_law 672 = .ok (.iadd, 1) := by decide +kernel
theorem dL_law_673 : decode cL_law 673 = .ok (.iaload, 1) := by decide +kernel
theorem dL_law_674 : decode cL_law 674 = .ok (.ifCond .eq 7, 3) := by decide +kernel
theorem dL_law_677 : decode cL_law 677 = .ok (.iconst 1, 1) := by decide +kernel
theorem dL_law_678 : decode cL_law 678 = .ok (.goto 4, 3) := by decide +kernel
theorem dL_law_681 : decode cL_law 681 = .ok (.iconst 0, 1) := by decide +kernel
theorem dL_law_682 : decode cL_law 682 = .ok (.aload_n 3, 1) := by decide +kernel
theorem dL_law_683 : decode cL_law 683 = .ok (.invokestatic 138, 3) := by decide +kernel
theorem dL_law_686 : decode cL_law 686 = .ok (.istore 5, 2) := by decide +kernel
theorem dL_law_688 : decode cL_law 688 = .ok (.aload_n 2, 1) := by decide +kernel
theorem dL_law_689 : decode cL_law 689 = .ok (.aload_n 0, 1) := by decide +kernel
theorem dL_law_690 : decode cL_law 690 = .ok (.iload 4, 2) := by decide +kernel
theorem dL_law_692 : decode cL_law 692 = .ok (.iconst 1, 1) := by decide +kernel
theorem dL_law_693 : decode cL_law 693 = .ok (.iadd, 1) := by decide +kernel
theorem dL_law_694 : decode cL_law 694 = .ok (.iaload, 1) := by decide +kernel
theorem dL_law_695 : decode cL_law 695 = .ok (.i2l, 1) := by decide +kernel
theorem dL_law_696 : decode cL_law 696 = .ok (.bipush 32, 2) := by decide +kernel
theorem dL_law_698 : decode cL_law 698 = .ok (.lshl, 1) := by decide +kernel
theorem dL_law_699 : decode cL_law 699 = .ok (.aload_n 0, 1) := by decide +kernel
theorem dL_law_700 : decode cL_law 700 = .ok (.iload 4, 2) := by decide +kernel
theorem dL_law_702 : decode cL_law 702 = .ok (.iconst 2, 1) := by decide +kernel
theorem dL_law_703 : decode cL_law 703 = .ok (.iadd, 1) := by decide +kernel
theorem dL_law_704 : decode cL_law 704 = .ok (.iaload, 1) := by decide +kernel
theorem dL_law_705 : decode cL_law 705 = .ok (.i2l, 1) := by decide +kernel
theorem dL_law_706 : decode cL_law 706 = .ok (.ldc2_w 136, 3) := by decide +kernel
theorem dL_law_709 : decode cL_law 709 = .ok (.land, 1) := by decide +kernel
theorem dL_law_710 : decode cL_law 710 = .ok (.lor, 1) := by decide +kernel
theorem dL_law_711 : decode cL_law 711 = .ok (.aload_n 0, 1) := by decide +kernel
theorem dL_law_712 : decode cL_law 712 = .ok (.iload 4, 2) := by decide +kernel
theorem dL_law_714 : decode cL_law 714 = .ok (.iconst 3, 1) := by decide +kernel
theorem dL_law_715 : decode cL_law 715 = .ok (.iadd, 1) := by decide +kernel
theorem dL_law_716 : decode cL_law 716 = .ok (.iaload, 1) := by decide +kernel
theorem dL_law_717 : decode cL_law 717 = .ok (.ifCond .eq 7, 3) := by decide +kernel
theorem dL_law_720 : decode cL_law 720 = .ok (.iconst 1, 1) := by decide +kernel
theorem dL_law_721 : decode cL_law 721 = .ok (.goto 4, 3) := by decide +kernel
theorem dL_law_724 : decode cL_law 724 = .ok (.iconst 0, 1) := by decide +kernel
theorem dL_law_725 : decode cL_law 725 = .ok (.invokevirtual 141, 3) := by decide +kernel
theorem dL_law_728 : decode cL_law 728 = .ok (.istore 6, 2) := by decide +kernel
theorem dL_law_730 : decode cL_law 730 = .ok (.aload_n 2, 1) := by decide +kernel
theorem dL_law_731 : decode cL_law 731 = .ok (.invokevirtual 104, 3) := by decide +kernel
theorem dL_law_734 : decode cL_law 734 = .ok (.iload 5, 2) := by decide +kernel
theorem dL_law_736 : decode cL_law 736 = .ok (.if_icmp .eq 5, 3) := by decide +kernel
theorem dL_law_739 : decode cL_law 739 = .ok (.iconst 0, 1) := by decide +kernel
theorem dL_law_740 : decode cL_law 740 = .ok (.ireturn, 1) := by decide +kernel
theorem dL_law_741 : decode cL_law 741 = .ok (.iload 5, 2) := by decide +kernel
theorem dL_law_743 : decode cL_law 743 = .ok (.ifCond .ne 15, 3) := by decide +kernel
theorem dL_law_746 : decode cL_law 746 = .ok (.aload_n 3, 1) := by decide +kernel
theorem dL_law_747 : decode cL_law 747 = .ok (.iconst 0, 1) := by decide +kernel
theorem dL_law_748 : decode cL_law 748 = .ok (.laload, 1) := by decide +kernel
theorem dL_law_749 : decode cL_law 749 = .ok (.iload 6, 2) := by decide +kernel
theorem dL_law_751 : decode cL_law 751 = .ok (.i2l, 1) := by decide +kernel
theorem dL_law_752 : decode cL_law 752 = .ok (.lcmp, 1) := by decide +kernel
theorem dL_law_753 : decode cL_law 753 = .ok (.ifCond .eq 5, 3) := by decide +kernel
theorem dL_law_756 : decode cL_law 756 = .ok (.iconst 0, 1) := by decide +kernel
theorem dL_law_757 : decode cL_law 757 = .ok (.ireturn, 1) := by decide +kernel
theorem dL_law_758 : decode cL_law 758 = .ok (.goto 938, 3) := by decide +kernel
theorem dL_law_761 : decode cL_law 761 = .ok (.aload_n 1, 1) := by decide +kernel
theorem dL_law_762 : decode cL_law 762 = .ok (.aload_n 0, 1) := by decide +kernel
theorem dL_law_763 : decode cL_law 763 = .ok (.iload 4, 2) := by decide +kernel
theorem dL_law_765 : decode cL_law 765 = .ok (.iconst 1, 1) := by decide +kernel
theorem dL_law_766 : decode cL_law 766 = .ok (.iadd, 1) := by decide +kernel
theorem dL_law_767 : decode cL_law 767 = .ok (.iaload, 1) := by decide +kernel
theorem dL_law_768 : decode cL_law 768 = .ok (.i2l, 1) := by decide +kernel
theorem dL_law_769 : decode cL_law 769 = .ok (.bipush 32, 2) := by decide +kernel
theorem dL_law_771 : decode cL_law 771 = .ok (.lshl, 1) := by decide +kernel
theorem dL_law_772 : decode cL_law 772 = .ok (.aload_n 0, 1) := by decide +kernel
theorem dL_law_773 : decode cL_law 773 = .ok (.iload 4, 2) := by decide +kernel
theorem dL_law_775 : decode cL_law 775 = .ok (.iconst 2, 1) := by decide +kernel
theorem dL_law_776 : decode cL_law 776 = .ok (.iadd, 1) := by decide +kernel
theorem dL_law_777 : decode cL_law 777 = .ok (.iaload, 1) := by decide +kernel
theorem dL_law_778 : decode cL_law 778 = .ok (.i2l, 1) := by decide +kernel
theorem dL_law_779 : decode cL_law 779 = .ok (.ldc2_w 136, 3) := by decide +kernel
theorem dL_law_782 : decode cL_law 782 = .ok (.land, 1) := by decide +kernel
theorem dL_law_783 : decode cL_law 783 = .ok (.lor, 1) := by decide +kernel
theorem dL_law_784 : decode cL_law 784 = .ok (.aload_n 0, 1) := by decide +kernel
theorem dL_law_785 : decode cL_law 785 = .ok (.iload 4, 2) := by decide +kernel
theorem dL_law_787 : decode cL_law 787 = .ok (.iconst 3, 1) := by decide +kernel
theorem dL_law_788 : decode cL_law 788 = .ok (.iadd, 1) := by decide +kernel
theorem dL_law_789 : decode cL_law 789 = .ok (.iaload, 1) := by decide +kernel
theorem dL_law_790 : decode cL_law 790 = .ok (.ifCond .eq 7, 3) := by decide +kernel
theorem dL_law_793 : decode cL_law 793 = .ok (.iconst 1, 1) := by decide +kernel
theorem dL_law_794 : decode cL_law 794 = .ok (.goto 4, 3) := by decide +kernel
theorem dL_law_797 : decode cL_law 797 = .ok (.iconst 0, 1) := by decide +kernel
theorem dL_law_798 : decode cL_law 798 = .ok (.aload_n 3, 1) := by decide +kernel
theorem dL_law_799 : decode cL_law 799 = .ok (.invokestatic 142, 3) := by decide +kernel
theorem dL_law_802 : decode cL_law 802 = .ok (.istore 5, 2) := by decide +kernel
theorem dL_law_804 : decode cL_law 804 = .ok (.aload_n 2, 1) := by decide +kernel
theorem dL_law_805 : decode cL_law 805 = .ok (.aload_n 0, 1) := by decide +kernel
theorem dL_law_806 : decode cL_law 806 = .ok (.iload 4, 2) := by decide +kernel
theorem dL_law_808 : decode cL_law 808 = .ok (.iconst 1, 1) := by decide +kernel
theorem dL_law_809 : decode cL_law 809 = .ok (.iadd, 1) := by decide +kernel
theorem dL_law_810 : decode cL_law 810 = .ok (.iaload, 1) := by decide +kernel
theorem dL_law_811 : decode cL_law 811 = .ok (.i2l, 1) := by decide +kernel
theorem dL_law_812 : decode cL_law 812 = .ok (.bipush 32, 2) := by decide +kernel
theorem dL_law_814 : decode cL_law 814 = .ok (.lshl, 1) := by decide +kernel
theorem dL_law_815 : decode cL_law 815 = .ok (.aload_n 0, 1) := by decide +kernel
theorem dL_law_816 : decode cL_law 816 = .ok (.iload 4, 2) := by decide +kernel
theorem dL_law_818 : decode cL_law 818 = .ok (.iconst 2, 1) := by decide +kernel
theorem dL_law_819 : decode cL_law 819 = .ok (.iadd, 1) := by decide +kernel
theorem dL_law_820 : decode cL_law 820 = .ok (.iaload, 1) := by decide +kernel
theorem dL_law_821 : decode cL_law 821 = .ok (.i2l, 1) := by decide +kernel
theorem dL_law_822 : decode cL_law 822 = .ok (.ldc2_w 136, 3) := by decide +kernel
theorem dL_law_825 : decode cL_law 825 = .ok (.land, 1) := by decide +kernel
theorem dL_law_826 : decode cL_law 826 = .ok (.lor, 1) := by decide +kernel
theorem dL_law_827 : decode cL_law 827 = .ok (.aload_n 0, 1) := by decide +kernel
theorem dL_law_828 : decode cL_law 828 = .ok (.iload 4, 2) := by decide +kernel
theorem dL_law_830 : decode cL_law 830 = .ok (.iconst 3, 1) := by decide +kernel
theorem dL_law_831 : decode cL_law 831 = .ok (.iadd, 1) := by decide +kernel
theorem dL_law_832 : decode cL_law 832 = .ok (.iaload, 1) := by decide +kernel
theorem dL_law_833 : decode cL_law 833 = .ok (.ifCond .eq 7, 3) := by decide +kernel
theorem dL_law_836 : decode cL_law 836 = .ok (.iconst 1, 1) := by decide +kernel
theorem dL_law_837 : decode cL_law 837 = .ok (.goto 4, 3) := by decide +kernel
theorem dL_law_840 : decode cL_law 840 = .ok (.iconst 0, 1) := by decide +kernel
theorem dL_law_841 : decode cL_law 841 = .ok (.invokevirtual 144, 3) := by decide +kernel
theorem dL_law_844 : decode cL_law 844 = .ok (.istore 6, 2) := by decide +kernel
theorem dL_law_846 : decode cL_law 846 = .ok (.aload_n 2, 1) := by decide +kernel
theorem dL_law_847 : decode cL_law 847 = .ok (.invokevirtual 104, 3) := by decide +kernel
theorem dL_law_850 : decode cL_law 850 = .ok (.iload 5, 2) := by decide +kernel
theorem dL_law_852 : decode cL_law 852 = .ok (.if_icmp .eq 5, 3) := by decide +kernel
theorem dL_law_855 : decode cL_law 855 = .ok (.iconst 0, 1) := by decide +kernel
theorem dL_law_856 : decode cL_law 856 = .ok (.ireturn, 1) := by decide +kernel
theorem dL_law_857 : decode cL_law 857 = .ok (.iload 5, 2) := by decide +kernel
theorem dL_law_859 : decode cL_law 859 = .ok (.ifCond .ne 15, 3) := by decide +kernel
theorem dL_law_862 : decode cL_law 862 = .ok (.aload_n 3, 1) := by decide +kernel
theorem dL_law_863 : decode cL_law 863 = .ok (.iconst 0, 1) := by decide +kernel
theorem dL_law_864 : decode cL_law 864 = .ok (.laload, 1) := by decide +kernel
theorem dL_law_865 : decode cL_law 865 = .ok (.iload 6, 2) := by decide +kernel
theorem dL_law_867 : decode cL_law 867 = .ok (.i2l, 1) := by decide +kernel
theorem dL_law_868 : decode cL_law 868 = .ok (.lcmp, 1) := by decide +kernel
theorem dL_law_869 : decode cL_law 869 = .ok (.ifCond .eq 5, 3) := by decide +kernel
theorem dL_law_872 : decode cL_law 872 = .ok (.iconst 0, 1) := by decide +kernel
theorem dL_law_873 : decode cL_law 873 = .ok (.ireturn, 1) := by decide +kernel
theorem dL_law_874 : decode cL_law 874 = .ok (.goto 822, 3) := by decide +kernel
theorem dL_law_877 : decode cL_law 877 = .ok (.aload_n 1, 1) := by decide +kernel
theorem dL_law_878 : decode cL_law 878 = .ok (.aload_n 0, 1) := by decide +kernel
theorem dL_law_879 : decode cL_law 879 = .ok (.iload 4, 2) := by decide +kernel
theorem dL_law_881 : decode cL_law 881 = .ok (.iconst 1, 1) := by decide +kernel
theorem dL_law_882 : decode cL_law 882 = .ok (.iadd, 1) := by decide +kernel
theorem dL_law_883 : decode cL_law 883 = .ok (.iaload, 1) := by decide +kernel
theorem dL_law_884 : decode cL_law 884 = .ok (.aload_n 3, 1) := by decide +kernel
theorem dL_law_885 : decode cL_law 885 = .ok (.invokestatic 145, 3) := by decide +kernel
theorem dL_law_888 : decode cL_law 888 = .ok (.istore 5, 2) := by decide +kernel
theorem dL_law_890 : decode cL_law 890 = .ok (.aload_n 2, 1) := by decide +kernel
theorem dL_law_891 : decode cL_law 891 = .ok (.aload_n 0, 1) := by decide +kernel
theorem dL_law_892 : decode cL_law 892 = .ok (.iload 4, 2) := by decide +kernel
theorem dL_law_894 : decode cL_law 894 = .ok (.iconst 1, 1) := by decide +kernel
theorem dL_law_895 : decode cL_law 895 = .ok (.iadd, 1) := by decide +kernel
theorem dL_law_896 : decode cL_law 896 = .ok (.iaload, 1) := by decide +kernel
theorem dL_law_897 : decode cL_law 897 = .ok (.invokevirtual 147, 3) := by decide +kernel
theorem dL_law_900 : decode cL_law 900 = .ok (.istore 6, 2) := by decide +kernel
theorem dL_law_902 : decode cL_law 902 = .ok (.aload_n 2, 1) := by decide +kernel
theorem dL_law_903 : decode cL_law 903 = .ok (.invokevirtual 104, 3) := by decide +kernel
theorem dL_law_906 : decode cL_law 906 = .ok (.iload 5, 2) := by decide +kernel
theorem dL_law_908 : decode cL_law 908 = .ok (.if_icmp .eq 5, 3) := by decide +kernel
theorem dL_law_911 : decode cL_law 911 = .ok (.iconst 0, 1) := by decide +kernel
theorem dL_law_912 : decode cL_law 912 = .ok (.ireturn, 1) := by decide +kernel
theorem dL_law_913 : decode cL_law 913 = .ok (.iload 5, 2) := by decide +kernel
theorem dL_law_915 : decode cL_law 915 = .ok (.ifCond .ne 15, 3) := by decide +kernel
theorem dL_law_918 : decode cL_law 918 = .ok (.aload_n 3, 1) := by decide +kernel
theorem dL_law_919 : decode cL_law 919 = .ok (.iconst 0, 1) := by decide +kernel
theorem dL_law_920 : decode cL_law 920 = .ok (.laload, 1) := by decide +kernel
theorem dL_law_921 : decode cL_law 921 = .ok (.iload 6, 2) := by decide +kernel
theorem dL_law_923 : decode cL_law 923 = .ok (.i2l, 1) := by decide +kernel
theorem dL_law_924 : decode cL_law 924 = .ok (.lcmp, 1) := by decide +kernel
theorem dL_law_925 : decode cL_law 925 = .ok (.ifCond .eq 5, 3) := by decide +kernel
theorem dL_law_928 : decode cL_law 928 = .ok (.iconst 0, 1) := by decide +kernel
theorem dL_law_929 : decode cL_law 929 = .ok (.ireturn, 1) := by decide +kernel
theorem dL_law_930 : decode cL_law 930 = .ok (.goto 766, 3) := by decide +kernel
theorem dL_law_933 : decode cL_law 933 = .ok (.aload_n 1, 1) := by decide +kernel
theorem dL_law_934 : decode cL_law 934 = .ok (.aload_n 0, 1) := by decide +kernel
theorem dL_law_935 : decode cL_law 935 = .ok (.iload 4, 2) := by decide +kernel
theorem dL_law_937 : decode cL_law 937 = .ok (.iconst 1, 1) := by decide +kernel
theorem dL_law_938 : decode cL_law 938 = .ok (.iadd, 1) := by decide +kernel
theorem dL_law_939 : decode cL_law 939 = .ok (.iaload, 1) := by decide +kernel
theorem dL_law_940 : decode cL_law 940 = .ok (.aload_n 3, 1) := by decide +kernel
theorem dL_law_941 : decode cL_law 941 = .ok (.invokestatic 148, 3) := by decide +kernel
theorem dL_law_944 : decode cL_law 944 = .ok (.istore 5, 2) := by decide +kernel
theorem dL_law_946 : decode cL_law 946 = .ok (.aload_n 2, 1) := by decide +kernel
theorem dL_law_947 : decode cL_law 947 = .ok (.aload_n 0, 1) := by decide +kernel
theorem dL_law_948 : decode cL_law 948 = .ok (.iload 4, 2) := by decide +kernel
theorem dL_law_950 : decode cL_law 950 = .ok (.iconst 1, 1) := by decide +kernel
theorem dL_law_951 : decode cL_law 951 = .ok (.iadd, 1) := by decide +kernel
theorem dL_law_952 : decode cL_law 952 = .ok (.iaload, 1) := by decide +kernel
theorem dL_law_953 : decode cL_law 953 = .ok (.invokevirtual 150, 3) := by decide +kernel
theorem dL_law_956 : decode cL_law 956 = .ok (.istore 6, 2) := by decide +kernel
theorem dL_law_958 : decode cL_law 958 = .ok (.aload_n 2, 1) := by decide +kernel
theorem dL_law_959 : decode cL_law 959 = .ok (.invokevirtual 104, 3) := by decide +kernel
theorem dL_law_962 : decode cL_law 962 = .ok (.iload 5, 2) := by decide +kernel
theorem dL_law_964 : decode cL_law 964 = .ok (.if_icmp .eq 5, 3) := by decide +kernel
theorem dL_law_967 : decode cL_law 967 = .ok (.iconst 0, 1) := by decide +kernel
theorem dL_law_968 : decode cL_law 968 = .ok (.ireturn, 1) := by decide +kernel
theorem dL_law_969 : decode cL_law 969 = .ok (.iload 5, 2) := by decide +kernel
theorem dL_law_971 : decode cL_law 971 = .ok (.ifCond .ne 15, 3) := by decide +kernel
theorem dL_law_974 : decode cL_law 974 = .ok (.aload_n 3, 1) := by decide +kernel
theorem dL_law_975 : decode cL_law 975 = .ok (.iconst 0, 1) := by decide +kernel
theorem dL_law_976 : decode cL_law 976 = .ok (.laload, 1) := by decide +kernel
theorem dL_law_977 : decode cL_law 977 = .ok (.iload 6, 2) := by decide +kernel
theorem dL_law_979 : decode cL_law 979 = .ok (.i2l, 1) := by decide +kernel
theorem dL_law_980 : decode cL_law 980 = .ok (.lcmp, 1) := by decide +kernel
theorem dL_law_981 : decode cL_law 981 = .ok (.ifCond .eq 5, 3) := by decide +kernel
theorem dL_law_984 : decode cL_law 984 = .ok (.iconst 0, 1) := by decide +kernel
theorem dL_law_985 : decode cL_law 985 = .ok (.ireturn, 1) := by decide +kernel
theorem dL_law_986 : decode cL_law 986 = .ok (.goto 710, 3) := by decide +kernel
theorem dL_law_989 : decode cL_law 989 = .ok (.aload_n 1, 1) := by decide +kernel
theorem dL_law_990 : decode cL_law 990 = .ok (.aload_n 0, 1) := by decide +kernel
theorem dL_law_991 : decode cL_law 991 = .ok (.iload 4, 2) := by decide +kernel
theorem dL_law_993 : decode cL_law 993 = .ok (.iconst 1, 1) := by decide +kernel
theorem dL_law_994 : decode cL_law 994 = .ok (.iadd, 1) := by decide +kernel
theorem dL_law_995 : decode cL_law 995 = .ok (.iaload, 1) := by decide +kernel
theorem dL_law_996 : decode cL_law 996 = .ok (.i2l, 1) := by decide +kernel
theorem dL_law_997 : decode cL_law 997 = .ok (.bipush 32, 2) := by decide +kernel
theorem dL_law_999 : decode cL_law 999 = .ok (.lshl, 1) := by decide +kernel
theorem dL_law_1000 : decode cL_law 1000 = .ok (.aload_n 0, 1) := by decide +kernel
theorem dL_law_1001 : decode cL_law 1001 = .ok (.iload 4, 2) := by decide +kernel
theorem dL_law_1003 : decode cL_law 1003 = .ok (.iconst 2, 1) := by decide +kernel
theorem dL_law_1004 : decode cL_law 1004 = .ok (.iadd, 1) := by decide +kernel
theorem dL_law_1005 : decode cL_law 1005 = .ok (.iaload, 1) := by decide +kernel
theorem dL_law_1006 : decode cL_law 1006 = .ok (.i2l, 1) := by decide +kernel
theorem dL_law_1007 : decode cL_law 1007 = .ok (.ldc2_w 136, 3) := by decide +kernel
theorem dL_law_1010 : decode cL_law 1010 = .ok (.land, 1) := by decide +kernel
theorem dL_law_1011 : decode cL_law 1011 = .ok (.lor, 1) := by decide +kernel
theorem dL_law_1012 : decode cL_law 1012 = .ok (.aload_n 0, 1) := by decide +kernel
theorem dL_law_1013 : decode cL_law 1013 = .ok (.iload 4, 2) := by decide +kernel
theorem dL_law_1015 : decode cL_law 1015 = .ok (.iconst 3, 1) := by decide +kernel
theorem dL_law_1016 : decode cL_law 1016 = .ok (.iadd, 1) := by decide +kernel
theorem dL_law_1017 : decode cL_law 1017 = .ok (.iaload, 1) := by decide +kernel
theorem dL_law_1018 : decode cL_law 1018 = .ok (.aload_n 3, 1) := by decide +kernel
theorem dL_law_1019 : decode cL_law 1019 = .ok (.invokestatic 151, 3) := by decide +kernel
theorem dL_law_1022 : decode cL_law 1022 = .ok (.istore 5, 2) := by decide +kernel
theorem dL_law_1024 : decode cL_law 1024 = .ok (.aload_n 2, 1) := by decide +kernel
theorem dL_law_1025 : decode cL_law 1025 = .ok (.aload_n 0, 1) := by decide +kernel
theorem dL_law_1026 : decode cL_law 1026 = .ok (.iload 4, 2) := by decide +kernel
theorem dL_law_1028 : decode cL_law 1028 = .ok (.iconst 1, 1) := by decide +kernel
theorem dL_law_1029 : decode cL_law 1029 = .ok (.iadd, 1) := by decide +kernel
theorem dL_law_1030 : decode cL_law 1030 = .ok (.iaload, 1) := by decide +kernel
theorem dL_law_1031 : decode cL_law 1031 = .ok (.i2l, 1) := by decide +kernel
theorem dL_law_1032 : decode cL_law 1032 = .ok (.bipush 32, 2) := by decide +kernel
theorem dL_law_1034 : decode cL_law 1034 = .ok (.lshl, 1) := by decide +kernel
theorem dL_law_1035 : decode cL_law 1035 = .ok (.aload_n 0, 1) := by decide +kernel
theorem dL_law_1036 : decode cL_law 1036 = .ok (.iload 4, 2) := by decide +kernel
theorem dL_law_1038 : decode cL_law 1038 = .ok (.iconst 2, 1) := by decide +kernel
theorem dL_law_1039 : decode cL_law 1039 = .ok (.iadd, 1) := by decide +kernel
theorem dL_law_1040 : decode cL_law 1040 = .ok (.iaload, 1) := by decide +kernel
theorem dL_law_1041 : decode cL_law 1041 = .ok (.i2l, 1) := by decide +kernel
theorem dL_law_1042 : decode cL_law 1042 = .ok (.ldc2_w 136, 3) := by decide +kernel
theorem dL_law_1045 : decode cL_law 1045 = .ok (.land, 1) := by decide +kernel
theorem dL_law_1046 : decode cL_law 1046 = .ok (.lor, 1) := by decide +kernel
theorem dL_law_1047 : decode cL_law 1047 = .ok (.aload_n 0, 1) := by decide +kernel
theorem dL_law_1048 : decode cL_law 1048 = .ok (.iload 4, 2) := by decide +kernel
theorem dL_law_1050 : decode cL_law 1050 = .ok (.iconst 3, 1) := by decide +kernel
theorem dL_law_1051 : decode cL_law 1051 = .ok (.iadd, 1) := by decide +kernel
theorem dL_law_1052 : decode cL_law 1052 = .ok (.iaload, 1) := by decide +kernel
theorem dL_law_1053 : decode cL_law 1053 = .ok (.invokevirtual 154, 3) := by decide +kernel
theorem dL_law_1056 : decode cL_law 1056 = .ok (.istore 6, 2) := by decide +kernel
theorem dL_law_1058 : decode cL_law 1058 = .ok (.aload_n 2, 1) := by decide +kernel
theorem dL_law_1059 : decode cL_law 1059 = .ok (.invokevirtual 104, 3) := by decide +kernel
theorem dL_law_1062 : decode cL_law 1062 = .ok (.iload 5, 2) := by decide +kernel
theorem dL_law_1064 : decode cL_law 1064 = .ok (.if_icmp .eq 5, 3) := by decide +kernel
theorem dL_law_1067 : decode cL_law 1067 = .ok (.iconst 0, 1) := by decide +kernel
theorem dL_law_1068 : decode cL_law 1068 = .ok (.ireturn, 1) := by decide +kernel
theorem dL_law_1069 : decode cL_law 1069 = .ok (.iload 5, 2) := by decide +kernel
theorem dL_law_1071 : decode cL_law 1071 = .ok (.ifCond .ne 15, 3) := by decide +kernel
theorem dL_law_1074 : decode cL_law 1074 = .ok (.aload_n 3, 1) := by decide +kernel
theorem dL_law_1075 : decode cL_law 1075 = .ok (.iconst 0, 1) := by decide +kernel
theorem dL_law_1076 : decode cL_law 1076 = .ok (.laload, 1) := by decide +kernel
theorem dL_law_1077 : decode cL_law 1077 = .ok (.iload 6, 2) := by decide +kernel
theorem dL_law_1079 : decode cL_law 1079 = .ok (.i2l, 1) := by decide +kernel
theorem dL_law_1080 : decode cL_law 1080 = .ok (.lcmp, 1) := by decide +kernel
theorem dL_law_1081 : decode cL_law 1081 = .ok (.ifCond .eq 5, 3) := by decide +kernel
theorem dL_law_1084 : decode cL_law 1084 = .ok (.iconst 0, 1) := by decide +kernel
theorem dL_law_1085 : decode cL_law 1085 = .ok (.ireturn, 1) := by decide +kernel
theorem dL_law_1086 : decode cL_law 1086 = .ok (.goto 610, 3) := by decide +kernel
theorem dL_law_1089 : decode cL_law 1089 = .ok (.aload_n 1, 1) := by decide +kernel
theorem dL_law_1090 : decode cL_law 1090 = .ok (.aload_n 0, 1) := by decide +kernel
theorem dL_law_1091 : decode cL_law 1091 = .ok (.iload 4, 2) := by decide +kernel
theorem dL_law_1093 : decode cL_law 1093 = .ok (.iconst 1, 1) := by decide +kernel
theorem dL_law_1094 : decode cL_law 1094 = .ok (.iadd, 1) := by decide +kernel
theorem dL_law_1095 : decode cL_law 1095 = .ok (.iaload, 1) := by decide +kernel
theorem dL_law_1096 : decode cL_law 1096 = .ok (.aload_n 3, 1) := by decide +kernel
theorem dL_law_1097 : decode cL_law 1097 = .ok (.invokestatic 155, 3) := by decide +kernel
theorem dL_law_1100 : decode cL_law 1100 = .ok (.istore 5, 2) := by decide +kernel
theorem dL_law_1102 : decode cL_law 1102 = .ok (.aload_n 2, 1) := by decide +kernel
theorem dL_law_1103 : decode cL_law 1103 = .ok (.aload_n 0, 1) := by decide +kernel
theorem dL_law_1104 : decode cL_law 1104 = .ok (.iload 4, 2) := by decide +kernel
theorem dL_law_1106 : decode cL_law 1106 = .ok (.iconst 1, 1) := by decide +kernel
theorem dL_law_1107 : decode cL_law 1107 = .ok (.iadd, 1) := by decide +kernel
theorem dL_law_1108 : decode cL_law 1108 = .ok (.iaload, 1) := by decide +kernel
theorem dL_law_1109 : decode cL_law 1109 = .ok (.invokevirtual 157, 3) := by decide +kernel
theorem dL_law_1112 : decode cL_law 1112 = .ok (.istore 6, 2) := by decide +kernel
theorem dL_law_1114 : decode cL_law 1114 = .ok (.aload_n 2, 1) := by decide +kernel
theorem dL_law_1115 : decode cL_law 1115 = .ok (.invokevirtual 104, 3) := by decide +kernel
theorem dL_law_1118 : decode cL_law 1118 = .ok (.iload 5, 2) := by decide +kernel
theorem dL_law_1120 : decode cL_law 1120 = .ok (.if_icmp .eq 5, 3) := by decide +kernel
theorem dL_law_1123 : decode cL_law 1123 = .ok (.iconst 0, 1) := by decide +kernel
theorem dL_law_1124 : decode cL_law 1124 = .ok (.ireturn, 1) := by decide +kernel
theorem dL_law_1125 : decode cL_law 1125 = .ok (.iload 5, 2) := by decide +kernel
theorem dL_law_1127 : decode cL_law 1127 = .ok (.ifCond .ne 15, 3) := by decide +kernel
theorem dL_law_1130 : decode cL_law 1130 = .ok (.aload_n 3, 1) := by decide +kernel
theorem dL_law_1131 : decode cL_law 1131 = .ok (.iconst 0, 1) := by decide +kernel
theorem dL_law_1132 : decode cL_law 1132 = .ok (.laload, 1) := by decide +kernel
theorem dL_law_1133 : decode cL_law 1133 = .ok (.iload 6, 2) := by decide +kernel
theorem dL_law_1135 : decode cL_law 1135 = .ok (.i2l, 1) := by decide +kernel
theorem dL_law_1136 : decode cL_law 1136 = .ok (.lcmp, 1) := by decide +kernel
theorem dL_law_1137 : decode cL_law 1137 = .ok (.ifCond .eq 5, 3) := by decide +kernel
theorem dL_law_1140 : decode cL_law 1140 = .ok (.iconst 0, 1) := by decide +kernel
theorem dL_law_1141 : decode cL_law 1141 = .ok (.ireturn, 1) := by decide +kernel
theorem dL_law_1142 : decode cL_law 1142 = .ok (.goto 554, 3) := by decide +kernel
theorem dL_law_1145 : decode cL_law 1145 = .ok (.aload_n 1, 1) := by decide +kernel
theorem dL_law_1146 : decode cL_law 1146 = .ok (.aload_n 0, 1) := by decide +kernel
theorem dL_law_1147 : decode cL_law 1147 = .ok (.iload 4, 2) := by decide +kernel
theorem dL_law_1149 : decode cL_law 1149 = .ok (.iconst 1, 1) := by decide +kernel
theorem dL_law_1150 : decode cL_law 1150 = .ok (.iadd, 1) := by decide +kernel
theorem dL_law_1151 : decode cL_law 1151 = .ok (.iaload, 1) := by decide +kernel
theorem dL_law_1152 : decode cL_law 1152 = .ok (.aload_n 0, 1) := by decide +kernel
theorem dL_law_1153 : decode cL_law 1153 = .ok (.iload 4, 2) := by decide +kernel
theorem dL_law_1155 : decode cL_law 1155 = .ok (.iconst 2, 1) := by decide +kernel
theorem dL_law_1156 : decode cL_law 1156 = .ok (.iadd, 1) := by decide +kernel
theorem dL_law_1157 : decode cL_law 1157 = .ok (.iaload, 1) := by decide +kernel
theorem dL_law_1158 : decode cL_law 1158 = .ok (.aload_n 3, 1) := by decide +kernel
theorem dL_law_1159 : decode cL_law 1159 = .ok (.invokestatic 158, 3) := by decide +kernel
theorem dL_law_1162 : decode cL_law 1162 = .ok (.istore 5, 2) := by decide +kernel
theorem dL_law_1164 : decode cL_law 1164 = .ok (.aload_n 2, 1) := by decide +kernel
theorem dL_law_1165 : decode cL_law 1165 = .ok (.aload_n 0, 1) := by decide +kernel
theorem dL_law_1166 : decode cL_law 1166 = .ok (.iload 4, 2) := by decide +kernel
theorem dL_law_1168 : decode cL_law 1168 = .ok (.iconst 1, 1) := by decide +kernel
theorem dL_law_1169 : decode cL_law 1169 = .ok (.iadd, 1) := by decide +kernel
theorem dL_law_1170 : decode cL_law 1170 = .ok (.iaload, 1) := by decide +kernel
theorem dL_law_1171 : decode cL_law 1171 = .ok (.aload_n 0, 1) := by decide +kernel
theorem dL_law_1172 : decode cL_law 1172 = .ok (.iload 4, 2) := by decide +kernel
theorem dL_law_1174 : decode cL_law 1174 = .ok (.iconst 2, 1) := by decide +kernel
theorem dL_law_1175 : decode cL_law 1175 = .ok (.iadd, 1) := by decide +kernel
theorem dL_law_1176 : decode cL_law 1176 = .ok (.iaload, 1) := by decide +kernel
theorem dL_law_1177 : decode cL_law 1177 = .ok (.invokevirtual 161, 3) := by decide +kernel
theorem dL_law_1180 : decode cL_law 1180 = .ok (.istore 6, 2) := by decide +kernel
theorem dL_law_1182 : decode cL_law 1182 = .ok (.aload_n 2, 1) := by decide +kernel
theorem dL_law_1183 : decode cL_law 1183 = .ok (.invokevirtual 104, 3) := by decide +kernel
theorem dL_law_1186 : decode cL_law 1186 = .ok (.iload 5, 2) := by decide +kernel
theorem dL_law_1188 : decode cL_law 1188 = .ok (.if_icmp .eq 5, 3) := by decide +kernel
theorem dL_law_1191 : decode cL_law 1191 = .ok (.iconst 0, 1) := by decide +kernel
theorem dL_law_1192 : decode cL_law 1192 = .ok (.ireturn, 1) := by decide +kernel
theorem dL_law_1193 : decode cL_law 1193 = .ok (.iload 5, 2) := by decide +kernel
theorem dL_law_1195 : decode cL_law 1195 = .ok (.ifCond .ne 15, 3) := by decide +kernel
theorem dL_law_1198 : decode cL_law 1198 = .ok (.aload_n 3, 1) := by decide +kernel
theorem dL_law_1199 : decode cL_law 1199 = .ok (.iconst 0, 1) := by decide +kernel
theorem dL_law_1200 : decode cL_law 1200 = .ok (.laload, 1) := by decide +kernel
theorem dL_law_1201 : decode cL_law 1201 = .ok (.iload 6, 2) := by decide +kernel
theorem dL_law_1203 : decode cL_law 1203 = .ok (.i2l, 1) := by decide +kernel
theorem dL_law_1204 : decode cL_law 1204 = .ok (.lcmp, 1) := by decide +kernel
theorem dL_law_1205 : decode cL_law 1205 = .ok (.ifCond .eq 5, 3) := by decide +kernel
theorem dL_law_1208 : decode cL_law 1208 = .ok (.iconst 0, 1) := by decide +kernel
theorem dL_law_1209 : decode cL_law 1209 = .ok (.ireturn, 1) := by decide +kernel
theorem dL_law_1210 : decode cL_law 1210 = .ok (.goto 486, 3) := by decide +kernel
theorem dL_law_1213 : decode cL_law 1213 = .ok (.aload_n 1, 1) := by decide +kernel
theorem dL_law_1214 : decode cL_law 1214 = .ok (.aload_n 0, 1) := by decide +kernel
theorem dL_law_1215 : decode cL_law 1215 = .ok (.iload 4, 2) := by decide +kernel
theorem dL_law_1217 : decode cL_law 1217 = .ok (.iconst 1, 1) := by decide +kernel
theorem dL_law_1218 : decode cL_law 1218 = .ok (.iadd, 1) := by decide +kernel
theorem dL_law_1219 : decode cL_law 1219 = .ok (.iaload, 1) := by decide +kernel
theorem dL_law_1220 : decode cL_law 1220 = .ok (.aload_n 0, 1) := by decide +kernel
theorem dL_law_1221 : decode cL_law 1221 = .ok (.iload 4, 2) := by decide +kernel
theorem dL_law_1223 : decode cL_law 1223 = .ok (.iconst 2, 1) := by decide +kernel
theorem dL_law_1224 : decode cL_law 1224 = .ok (.iadd, 1) := by decide +kernel
theorem dL_law_1225 : decode cL_law 1225 = .ok (.iaload, 1) := by decide +kernel
theorem dL_law_1226 : decode cL_law 1226 = .ok (.aload_n 0, 1) := by decide +kernel
theorem dL_law_1227 : decode cL_law 1227 = .ok (.iload 4, 2) := by decide +kernel
theorem dL_law_1229 : decode cL_law 1229 = .ok (.iconst 3, 1) := by decide +kernel
theorem dL_law_1230 : decode cL_law 1230 = .ok (.iadd, 1) := by decide +kernel
theorem dL_law_1231 : decode cL_law 1231 = .ok (.iaload, 1) := by decide +kernel
theorem dL_law_1232 : decode cL_law 1232 = .ok (.aload_n 3, 1) := by decide +kernel
theorem dL_law_1233 : decode cL_law 1233 = .ok (.invokestatic 162, 3) := by decide +kernel
theorem dL_law_1236 : decode cL_law 1236 = .ok (.istore 5, 2) := by decide +kernel
theorem dL_law_1238 : decode cL_law 1238 = .ok (.aload_n 2, 1) := by decide +kernel
theorem dL_law_1239 : decode cL_law 1239 = .ok (.aload_n 0, 1) := by decide +kernel
theorem dL_law_1240 : decode cL_law 1240 = .ok (.iload 4, 2) := by decide +kernel
theorem dL_law_1242 : decode cL_law 1242 = .ok (.iconst 1, 1) := by decide +kernel
theorem dL_law_1243 : decode cL_law 1243 = .ok (.iadd, 1) := by decide +kernel
theorem dL_law_1244 : decode cL_law 1244 = .ok (.iaload, 1) := by decide +kernel
theorem dL_law_1245 : decode cL_law 1245 = .ok (.aload_n 0, 1) := by decide +kernel
theorem dL_law_1246 : decode cL_law 1246 = .ok (.iload 4, 2) := by decide +kernel
theorem dL_law_1248 : decode cL_law 1248 = .ok (.iconst 2, 1) := by decide +kernel
theorem dL_law_1249 : decode cL_law 1249 = .ok (.iadd, 1) := by decide +kernel
theorem dL_law_1250 : decode cL_law 1250 = .ok (.iaload, 1) := by decide +kernel
theorem dL_law_1251 : decode cL_law 1251 = .ok (.aload_n 0, 1) := by decide +kernel
theorem dL_law_1252 : decode cL_law 1252 = .ok (.iload 4, 2) := by decide +kernel
theorem dL_law_1254 : decode cL_law 1254 = .ok (.iconst 3, 1) := by decide +kernel
theorem dL_law_1255 : decode cL_law 1255 = .ok (.iadd, 1) := by decide +kernel
theorem dL_law_1256 : decode cL_law 1256 = .ok (.iaload, 1) := by decide +kernel
theorem dL_law_1257 : decode cL_law 1257 = .ok (.invokevirtual 165, 3) := by decide +kernel
theorem dL_law_1260 : decode cL_law 1260 = .ok (.istore 6, 2) := by decide +kernel
theorem dL_law_1262 : decode cL_law 1262 = .ok (.aload_n 2, 1) := by decide +kernel
theorem dL_law_1263 : decode cL_law 1263 = .ok (.invokevirtual 104, 3) := by decide +kernel
theorem dL_law_1266 : decode cL_law 1266 = .ok (.iload 5, 2) := by decide +kernel
theorem dL_law_1268 : decode cL_law 1268 = .ok (.if_icmp .eq 5, 3) := by decide +kernel
theorem dL_law_1271 : decode cL_law 1271 = .ok (.iconst 0, 1) := by decide +kernel
theorem dL_law_1272 : decode cL_law 1272 = .ok (.ireturn, 1) := by decide +kernel
theorem dL_law_1273 : decode cL_law 1273 = .ok (.iload 5, 2) := by decide +kernel
theorem dL_law_1275 : decode cL_law 1275 = .ok (.ifCond .ne 15, 3) := by decide +kernel
theorem dL_law_1278 : decode cL_law 1278 = .ok (.aload_n 3, 1) := by decide +kernel
theorem dL_law_1279 : decode cL_law 1279 = .ok (.iconst 0, 1) := by decide +kernel
theorem dL_law_1280 : decode cL_law 1280 = .ok (.laload, 1) := by decide +kernel
theorem dL_law_1281 : decode cL_law 1281 = .ok (.iload 6, 2) := by decide +kernel
theorem dL_law_1283 : decode cL_law 1283 = .ok (.i2l, 1) := by decide +kernel
theorem dL_law_1284 : decode cL_law 1284 = .ok (.lcmp, 1) := by decide +kernel
theorem dL_law_1285 : decode cL_law 1285 = .ok (.ifCond .eq 5, 3) := by decide +kernel
theorem dL_law_1288 : decode cL_law 1288 = .ok (.iconst 0, 1) := by decide +kernel
theorem dL_law_1289 : decode cL_law 1289 = .ok (.ireturn, 1) := by decide +kernel
theorem dL_law_1290 : decode cL_law 1290 = .ok (.goto 406, 3) := by decide +kernel
theorem dL_law_1293 : decode cL_law 1293 = .ok (.aload_n 1, 1) := by decide +kernel
theorem dL_law_1294 : decode cL_law 1294 = .ok (.aload_n 0, 1) := by decide +kernel
theorem dL_law_1295 : decode cL_law 1295 = .ok (.iload 4, 2) := by decide +kernel
theorem dL_law_1297 : decode cL_law 1297 = .ok (.iconst 1, 1) := by decide +kernel
theorem dL_law_1298 : decode cL_law 1298 = .ok (.iadd, 1) := by decide +kernel
theorem dL_law_1299 : decode cL_law 1299 = .ok (.iaload, 1) := by decide +kernel
theorem dL_law_1300 : decode cL_law 1300 = .ok (.aload_n 0, 1) := by decide +kernel
theorem dL_law_1301 : decode cL_law 1301 = .ok (.iload 4, 2) := by decide +kernel
theorem dL_law_1303 : decode cL_law 1303 = .ok (.iconst 2, 1) := by decide +kernel
theorem dL_law_1304 : decode cL_law 1304 = .ok (.iadd, 1) := by decide +kernel
theorem dL_law_1305 : decode cL_law 1305 = .ok (.iaload, 1) := by decide +kernel
theorem dL_law_1306 : decode cL_law 1306 = .ok (.aload_n 3, 1) := by decide +kernel
theorem dL_law_1307 : decode cL_law 1307 = .ok (.invokestatic 166, 3) := by decide +kernel
theorem dL_law_1310 : decode cL_law 1310 = .ok (.istore 5, 2) := by decide +kernel
theorem dL_law_1312 : decode cL_law 1312 = .ok (.aload_n 2, 1) := by decide +kernel
theorem dL_law_1313 : decode cL_law 1313 = .ok (.aload_n 0, 1) := by decide +kernel
theorem dL_law_1314 : decode cL_law 1314 = .ok (.iload 4, 2) := by decide +kernel
theorem dL_law_1316 : decode cL_law 1316 = .ok (.iconst 1, 1) := by decide +kernel
theorem dL_law_1317 : decode cL_law 1317 = .ok (.iadd, 1) := by decide +kernel
theorem dL_law_1318 : decode cL_law 1318 = .ok (.iaload, 1) := by decide +kernel
theorem dL_law_1319 : decode cL_law 1319 = .ok (.aload_n 0, 1) := by decide +kernel
theorem dL_law_1320 : decode cL_law 1320 = .ok (.iload 4, 2) := by decide +kernel
theorem dL_law_1322 : decode cL_law 1322 = .ok (.iconst 2, 1) := by decide +kernel
theorem dL_law_1323 : decode cL_law 1323 = .ok (.iadd, 1) := by decide +kernel
theorem dL_law_1324 : decode cL_law 1324 = .ok (.iaload, 1) := by decide +kernel
theorem dL_law_1325 : decode cL_law 1325 = .ok (.invokevirtual 168, 3) := by decide +kernel
theorem dL_law_1328 : decode cL_law 1328 = .ok (.istore 6, 2) := by decide +kernel
theorem dL_law_1330 : decode cL_law 1330 = .ok (.aload_n 2, 1) := by decide +kernel
theorem dL_law_1331 : decode cL_law 1331 = .ok (.invokevirtual 104, 3) := by decide +kernel
theorem dL_law_1334 : decode cL_law 1334 = .ok (.iload 5, 2) := by decide +kernel
theorem dL_law_1336 : decode cL_law 1336 = .ok (.if_icmp .eq 5, 3) := by decide +kernel
theorem dL_law_1339 : decode cL_law 1339 = .ok (.iconst 0, 1) := by decide +kernel
theorem dL_law_1340 : decode cL_law 1340 = .ok (.ireturn, 1) := by decide +kernel
theorem dL_law_1341 : decode cL_law 1341 = .ok (.iload 5, 2) := by decide +kernel
theorem dL_law_1343 : decode cL_law 1343 = .ok (.ifCond .ne 15, 3) := by decide +kernel
theorem dL_law_1346 : decode cL_law 1346 = .ok (.aload_n 3, 1) := by decide +kernel
theorem dL_law_1347 : decode cL_law 1347 = .ok (.iconst 0, 1) := by decide +kernel
theorem dL_law_1348 : decode cL_law 1348 = .ok (.laload, 1) := by decide +kernel
theorem dL_law_1349 : decode cL_law 1349 = .ok (.iload 6, 2) := by decide +kernel
theorem dL_law_1351 : decode cL_law 1351 = .ok (.i2l, 1) := by decide +kernel
theorem dL_law_1352 : decode cL_law 1352 = .ok (.lcmp, 1) := by decide +kernel
theorem dL_law_1353 : decode cL_law 1353 = .ok (.ifCond .eq 5, 3) := by decide +kernel
theorem dL_law_1356 : decode cL_law 1356 = .ok (.iconst 0, 1) := by decide +kernel
theorem dL_law_1357 : decode cL_law 1357 = .ok (.ireturn, 1) := by decide +kernel
theorem dL_law_1358 : decode cL_law 1358 = .ok (.goto 338, 3) := by decide +kernel
theorem dL_law_1361 : decode cL_law 1361 = .ok (.aload_n 1, 1) := by decide +kernel
theorem dL_law_1362 : decode cL_law 1362 = .ok (.aload_n 0, 1) := by decide +kernel
theorem dL_law_1363 : decode cL_law 1363 = .ok (.iload 4, 2) := by decide +kernel
theorem dL_law_1365 : decode cL_law 1365 = .ok (.iconst 1, 1) := by decide +kernel
theorem dL_law_1366 : decode cL_law 1366 = .ok (.iadd, 1) := by decide +kernel
theorem dL_law_1367 : decode cL_law 1367 = .ok (.iaload, 1) := by decide +kernel
theorem dL_law_1368 : decode cL_law 1368 = .ok (.aload_n 3, 1) := by decide +kernel
theorem dL_law_1369 : decode cL_law 1369 = .ok (.invokestatic 169, 3) := by decide +kernel
theorem dL_law_1372 : decode cL_law 1372 = .ok (.istore 5, 2) := by decide +kernel
theorem dL_law_1374 : decode cL_law 1374 = .ok (.aload_n 2, 1) := by decide +kernel
theorem dL_law_1375 : decode cL_law 1375 = .ok (.aload_n 0, 1) := by decide +kernel
theorem dL_law_1376 : decode cL_law 1376 = .ok (.iload 4, 2) := by decide +kernel
theorem dL_law_1378 : decode cL_law 1378 = .ok (.iconst 1, 1) := by decide +kernel
theorem dL_law_1379 : decode cL_law 1379 = .ok (.iadd, 1) := by decide +kernel
theorem dL_law_1380 : decode cL_law 1380 = .ok (.iaload, 1) := by decide +kernel
theorem dL_law_1381 : decode cL_law 1381 = .ok (.invokevirtual 171, 3) := by decide +kernel
theorem dL_law_1384 : decode cL_law 1384 = .ok (.lstore 6, 2) := by decide +kernel
theorem dL_law_1386 : decode cL_law 1386 = .ok (.aload_n 2, 1) := by decide +kernel
theorem dL_law_1387 : decode cL_law 1387 = .ok (.invokevirtual 104, 3) := by decide +kernel
theorem dL_law_1390 : decode cL_law 1390 = .ok (.iload 5, 2) := by decide +kernel
theorem dL_law_1392 : decode cL_law 1392 = .ok (.if_icmp .eq 5, 3) := by decide +kernel
theorem dL_law_1395 : decode cL_law 1395 = .ok (.iconst 0, 1) := by decide +kernel
theorem dL_law_1396 : decode cL_law 1396 = .ok (.ireturn, 1) := by decide +kernel
theorem dL_law_1397 : decode cL_law 1397 = .ok (.iload 5, 2) := by decide +kernel
theorem dL_law_1399 : decode cL_law 1399 = .ok (.ifCond .ne 14, 3) := by decide +kernel
theorem dL_law_1402 : decode cL_law 1402 = .ok (.aload_n 3, 1) := by decide +kernel
theorem dL_law_1403 : decode cL_law 1403 = .ok (.iconst 0, 1) := by decide +kernel
theorem dL_law_1404 : decode cL_law 1404 = .ok (.laload, 1) := by decide +kernel
theorem dL_law_1405 : decode cL_law 1405 = .ok (.lload 6, 2) := by decide +kernel
theorem dL_law_1407 : decode cL_law 1407 = .ok (.lcmp, 1) := by decide +kernel
theorem dL_law_1408 : decode cL_law 1408 = .ok (.ifCond .eq 5, 3) := by decide +kernel
theorem dL_law_1411 : decode cL_law 1411 = .ok (.iconst 0, 1) := by decide +kernel
theorem dL_law_1412 : decode cL_law 1412 = .ok (.ireturn, 1) := by decide +kernel
theorem dL_law_1413 : decode cL_law 1413 = .ok (.goto 283, 3) := by decide +kernel
theorem dL_law_1416 : decode cL_law 1416 = .ok (.aload_n 1, 1) := by decide +kernel
theorem dL_law_1417 : decode cL_law 1417 = .ok (.aload_n 0, 1) := by decide +kernel
theorem dL_law_1418 : decode cL_law 1418 = .ok (.iload 4, 2) := by decide +kernel
theorem dL_law_1420 : decode cL_law 1420 = .ok (.iconst 1, 1) := by decide +kernel
theorem dL_law_1421 : decode cL_law 1421 = .ok (.iadd, 1) := by decide +kernel
theorem dL_law_1422 : decode cL_law 1422 = .ok (.iaload, 1) := by decide +kernel
theorem dL_law_1423 : decode cL_law 1423 = .ok (.aload_n 0, 1) := by decide +kernel
theorem dL_law_1424 : decode cL_law 1424 = .ok (.iload 4, 2) := by decide +kernel
theorem dL_law_1426 : decode cL_law 1426 = .ok (.iconst 2, 1) := by decide +kernel
theorem dL_law_1427 : decode cL_law 1427 = .ok (.iadd, 1) := by decide +kernel
theorem dL_law_1428 : decode cL_law 1428 = .ok (.iaload, 1) := by decide +kernel
theorem dL_law_1429 : decode cL_law 1429 = .ok (.aload_n 3, 1) := by decide +kernel
theorem dL_law_1430 : decode cL_law 1430 = .ok (.invokestatic 172, 3) := by decide +kernel
theorem dL_law_1433 : decode cL_law 1433 = .ok (.istore 5, 2) := by decide +kernel
theorem dL_law_1435 : decode cL_law 1435 = .ok (.aload_n 2, 1) := by decide +kernel
theorem dL_law_1436 : decode cL_law 1436 = .ok (.aload_n 0, 1) := by decide +kernel
theorem dL_law_1437 : decode cL_law 1437 = .ok (.iload 4, 2) := by decide +kernel
theorem dL_law_1439 : decode cL_law 1439 = .ok (.iconst 1, 1) := by decide +kernel
theorem dL_law_1440 : decode cL_law 1440 = .ok (.iadd, 1) := by decide +kernel
theorem dL_law_1441 : decode cL_law 1441 = .ok (.iaload, 1) := by decide +kernel
theorem dL_law_1442 : decode cL_law 1442 = .ok (.aload_n 0, 1) := by decide +kernel
theorem dL_law_1443 : decode cL_law 1443 = .ok (.iload 4, 2) := by decide +kernel
theorem dL_law_1445 : decode cL_law 1445 = .ok (.iconst 2, 1) := by decide +kernel
theorem dL_law_1446 : decode cL_law 1446 = .ok (.iadd, 1) := by decide +kernel
theorem dL_law_1447 : decode cL_law 1447 = .ok (.iaload, 1) := by decide +kernel
theorem dL_law_1448 : decode cL_law 1448 = .ok (.invokevirtual 174, 3) := by decide +kernel
theorem dL_law_1451 : decode cL_law 1451 = .ok (.istore 6, 2) := by decide +kernel
theorem dL_law_1453 : decode cL_law 1453 = .ok (.aload_n 2, 1) := by decide +kernel
theorem dL_law_1454 : decode cL_law 1454 = .ok (.invokevirtual 104, 3) := by decide +kernel
theorem dL_law_1457 : decode cL_law 1457 = .ok (.iload 5, 2) := by decide +kernel
theorem dL_law_1459 : decode cL_law 1459 = .ok (.if_icmp .eq 5, 3) := by decide +kernel
theorem dL_law_1462 : decode cL_law 1462 = .ok (.iconst 0, 1) := by decide +kernel
theorem dL_law_1463 : decode cL_law 1463 = .ok (.ireturn, 1) := by decide +kernel
theorem dL_law_1464 : decode cL_law 1464 = .ok (.iload 5, 2) := by decide +kernel
theorem dL_law_1466 : decode cL_law 1466 = .ok (.ifCond .ne 15, 3) := by decide +kernel
theorem dL_law_1469 : decode cL_law 1469 = .ok (.aload_n 3, 1) := by decide +kernel
theorem dL_law_1470 : decode cL_law 1470 = .ok (.iconst 0, 1) := by decide +kernel
theorem dL_law_1471 : decode cL_law 1471 = .ok (.laload, 1) := by decide +kernel
theorem dL_law_1472 : decode cL_law 1472 = .ok (.iload 6, 2) := by decide +kernel
theorem dL_law_1474 : decode cL_law 1474 = .ok (.i2l, 1) := by decide +kernel
theorem dL_law_1475 : decode cL_law 1475 = .ok (.lcmp, 1) := by decide +kernel
theorem dL_law_1476 : decode cL_law 1476 = .ok (.ifCond .eq 5, 3) := by decide +kernel
theorem dL_law_1479 : decode cL_law 1479 = .ok (.iconst 0, 1) := by decide +kernel
theorem dL_law_1480 : decode cL_law 1480 = .ok (.ireturn, 1) := by decide +kernel
theorem dL_law_1481 : decode cL_law 1481 = .ok (.goto 215, 3) := by decide +kernel
theorem dL_law_1484 : decode cL_law 1484 = .ok (.aload_n 1, 1) := by decide +kernel
theorem dL_law_1485 : decode cL_law 1485 = .ok (.aload_n 0, 1) := by decide +kernel
theorem dL_law_1486 : decode cL_law 1486 = .ok (.iload 4, 2) := by decide +kernel
theorem dL_law_1488 : decode cL_law 1488 = .ok (.iconst 1, 1) := by decide +kernel
theorem dL_law_1489 : decode cL_law 1489 = .ok (.iadd, 1) := by decide +kernel
theorem dL_law_1490 : decode cL_law 1490 = .ok (.iaload, 1) := by decide +kernel
theorem dL_law_1491 : decode cL_law 1491 = .ok (.aload_n 0, 1) := by decide +kernel
theorem dL_law_1492 : decode cL_law 1492 = .ok (.iload 4, 2) := by decide +kernel
theorem dL_law_1494 : decode cL_law 1494 = .ok (.iconst 2, 1) := by decide +kernel
theorem dL_law_1495 : decode cL_law 1495 = .ok (.iadd, 1) := by decide +kernel
theorem dL_law_1496 : decode cL_law 1496 = .ok (.iaload, 1) := by decide +kernel
theorem dL_law_1497 : decode cL_law 1497 = .ok (.aload_n 3, 1) := by decide +kernel
theorem dL_law_1498 : decode cL_law 1498 = .ok (.invokestatic 175, 3) := by decide +kernel
theorem dL_law_1501 : decode cL_law 1501 = .ok (.istore 5, 2) := by decide +kernel
theorem dL_law_1503 : decode cL_law 1503 = .ok (.aload_n 2, 1) := by decide +kernel
theorem dL_law_1504 : decode cL_law 1504 = .ok (.aload_n 0, 1) := by decide +kernel
theorem dL_law_1505 : decode cL_law 1505 = .ok (.iload 4, 2) := by decide +kernel
theorem dL_law_1507 : decode cL_law 1507 = .ok (.iconst 1, 1) := by decide +kernel
theorem dL_law_1508 : decode cL_law 1508 = .ok (.iadd, 1) := by decide +kernel
theorem dL_law_1509 : decode cL_law 1509 = .ok (.iaload, 1) := by decide +kernel
theorem dL_law_1510 : decode cL_law 1510 = .ok (.aload_n 0, 1) := by decide +kernel
theorem dL_law_1511 : decode cL_law 1511 = .ok (.iload 4, 2) := by decide +kernel
theorem dL_law_1513 : decode cL_law 1513 = .ok (.iconst 2, 1) := by decide +kernel
theorem dL_law_1514 : decode cL_law 1514 = .ok (.iadd, 1) := by decide +kernel
theorem dL_law_1515 : decode cL_law 1515 = .ok (.iaload, 1) := by decide +kernel
theorem dL_law_1516 : decode cL_law 1516 = .ok (.invokevirtual 177, 3) := by decide +kernel
theorem dL_law_1519 : decode cL_law 1519 = .ok (.istore 6, 2) := by decide +kernel
theorem dL_law_1521 : decode cL_law 1521 = .ok (.aload_n 2, 1) := by decide +kernel
theorem dL_law_1522 : decode cL_law 1522 = .ok (.invokevirtual 104, 3) := by decide +kernel
theorem dL_law_1525 : decode cL_law 1525 = .ok (.iload 5, 2) := by decide +kernel
theorem dL_law_1527 : decode cL_law 1527 = .ok (.if_icmp .eq 5, 3) := by decide +kernel
theorem dL_law_1530 : decode cL_law 1530 = .ok (.iconst 0, 1) := by decide +kernel
theorem dL_law_1531 : decode cL_law 1531 = .ok (.ireturn, 1) := by decide +kernel
theorem dL_law_1532 : decode cL_law 1532 = .ok (.iload 5, 2) := by decide +kernel
theorem dL_law_1534 : decode cL_law 1534 = .ok (.ifCond .ne 22, 3) := by decide +kernel
theorem dL_law_1537 : decode cL_law 1537 = .ok (.aload_n 3, 1) := by decide +kernel
theorem dL_law_1538 : decode cL_law 1538 = .ok (.iconst 0, 1) := by decide +kernel
theorem dL_law_1539 : decode cL_law 1539 = .ok (.laload, 1) := by decide +kernel
theorem dL_law_1540 : decode cL_law 1540 = .ok (.iload 6, 2) := by decide +kernel
theorem dL_law_1542 : decode cL_law 1542 = .ok (.ifCond .eq 7, 3) := by decide +kernel
theorem dL_law_1545 : decode cL_law 1545 = .ok (.lconst 1, 1) := by decide +kernel
theorem dL_law_1546 : decode cL_law 1546 = .ok (.goto 4, 3) := by decide +kernel
theorem dL_law_1549 : decode cL_law 1549 = .ok (.lconst 0, 1) := by decide +kernel
theorem dL_law_1550 : decode cL_law 1550 = .ok (.lcmp, 1) := by decide +kernel
theorem dL_law_1551 : decode cL_law 1551 = .ok (.ifCond .eq 5, 3) := by decide +kernel
theorem dL_law_1554 : decode cL_law 1554 = .ok (.iconst 0, 1) := by decide +kernel
theorem dL_law_1555 : decode cL_law 1555 = .ok (.ireturn, 1) := by decide +kernel
theorem dL_law_1556 : decode cL_law 1556 = .ok (.goto 140, 3) := by decide +kernel
theorem dL_law_1559 : decode cL_law 1559 = .ok (.aload_n 1, 1) := by decide +kernel
theorem dL_law_1560 : decode cL_law 1560 = .ok (.aload_n 0, 1) := by decide +kernel
theorem dL_law_1561 : decode cL_law 1561 = .ok (.iload 4, 2) := by decide +kernel
theorem dL_law_1563 : decode cL_law 1563 = .ok (.iconst 1, 1) := by decide +kernel
theorem dL_law_1564 : decode cL_law 1564 = .ok (.iadd, 1) := by decide +kernel
theorem dL_law_1565 : decode cL_law 1565 = .ok (.iaload, 1) := by decide +kernel
theorem dL_law_1566 : decode cL_law 1566 = .ok (.aload_n 0, 1) := by decide +kernel
theorem dL_law_1567 : decode cL_law 1567 = .ok (.iload 4, 2) := by decide +kernel
theorem dL_law_1569 : decode cL_law 1569 = .ok (.iconst 2, 1) := by decide +kernel
theorem dL_law_1570 : decode cL_law 1570 = .ok (.iadd, 1) := by decide +kernel
theorem dL_law_1571 : decode cL_law 1571 = .ok (.iaload, 1) := by decide +kernel
theorem dL_law_1572 : decode cL_law 1572 = .ok (.aload_n 3, 1) := by decide +kernel
theorem dL_law_1573 : decode cL_law 1573 = .ok (.invokestatic 178, 3) := by decide +kernel
theorem dL_law_1576 : decode cL_law 1576 = .ok (.istore 5, 2) := by decide +kernel
theorem dL_law_1578 : decode cL_law 1578 = .ok (.aload_n 2, 1) := by decide +kernel
theorem dL_law_1579 : decode cL_law 1579 = .ok (.aload_n 0, 1) := by decide +kernel
theorem dL_law_1580 : decode cL_law 1580 = .ok (.iload 4, 2) := by decide +kernel
theorem dL_law_1582 : decode cL_law 1582 = .ok (.iconst 1, 1) := by decide +kernel
theorem dL_law_1583 : decode cL_law 1583 = .ok (.iadd, 1) := by decide +kernel
theorem dL_law_1584 : decode cL_law 1584 = .ok (.iaload, 1) := by decide +kernel
theorem dL_law_1585 : decode cL_law 1585 = .ok (.aload_n 0, 1) := by decide +kernel
theorem dL_law_1586 : decode cL_law 1586 = .ok (.iload 4, 2) := by decide +kernel
theorem dL_law_1588 : decode cL_law 1588 = .ok (.iconst 2, 1) := by decide +kernel
theorem dL_law_1589 : decode cL_law 1589 = .ok (.iadd, 1) := by decide +kernel
theorem dL_law_1590 : decode cL_law 1590 = .ok (.iaload, 1) := by decide +kernel
theorem dL_law_1591 : decode cL_law 1591 = .ok (.invokevirtual 180, 3) := by decide +kernel
theorem dL_law_1594 : decode cL_law 1594 = .ok (.istore 6, 2) := by decide +kernel
theorem dL_law_1596 : decode cL_law 1596 = .ok (.aload_n 2, 1) := by decide +kernel
theorem dL_law_1597 : decode cL_law 1597 = .ok (.invokevirtual 104, 3) := by decide +kernel
theorem dL_law_1600 : decode cL_law 1600 = .ok (.iload 5, 2) := by decide +kernel
theorem dL_law_1602 : decode cL_law 1602 = .ok (.if_icmp .eq 5, 3) := by decide +kernel
theorem dL_law_1605 : decode cL_law 1605 = .ok (.iconst 0, 1) := by decide +kernel
theorem dL_law_1606 : decode cL_law 1606 = .ok (.ireturn, 1) := by decide +kernel
theorem dL_law_1607 : decode cL_law 1607 = .ok (.iload 5, 2) := by decide +kernel
theorem dL_law_1609 : decode cL_law 1609 = .ok (.ifCond .ne 15, 3) := by decide +kernel
theorem dL_law_1612 : decode cL_law 1612 = .ok (.aload_n 3, 1) := by decide +kernel
theorem dL_law_1613 : decode cL_law 1613 = .ok (.iconst 0, 1) := by decide +kernel
theorem dL_law_1614 : decode cL_law 1614 = .ok (.laload, 1) := by decide +kernel
theorem dL_law_1615 : decode cL_law 1615 = .ok (.iload 6, 2) := by decide +kernel
theorem dL_law_1617 : decode cL_law 1617 = .ok (.i2l, 1) := by decide +kernel
theorem dL_law_1618 : decode cL_law 1618 = .ok (.lcmp, 1) := by decide +kernel
theorem dL_law_1619 : decode cL_law 1619 = .ok (.ifCond .eq 5, 3) := by decide +kernel
theorem dL_law_1622 : decode cL_law 1622 = .ok (.iconst 0, 1) := by decide +kernel
theorem dL_law_1623 : decode cL_law 1623 = .ok (.ireturn, 1) := by decide +kernel
theorem dL_law_1624 : decode cL_law 1624 = .ok (.goto 72, 3) := by decide +kernel
theorem dL_law_1627 : decode cL_law 1627 = .ok (.aload_n 1, 1) := by decide +kernel
theorem dL_law_1628 : decode cL_law 1628 = .ok (.aload_n 0, 1) := by decide +kernel
theorem dL_law_1629 : decode cL_law 1629 = .ok (.iload 4, 2) := by decide +kernel
theorem dL_law_1631 : decode cL_law 1631 = .ok (.iconst 1, 1) := by decide +kernel
theorem dL_law_1632 : decode cL_law 1632 = .ok (.iadd, 1) := by decide +kernel
theorem dL_law_1633 : decode cL_law 1633 = .ok (.iaload, 1) := by decide +kernel
theorem dL_law_1634 : decode cL_law 1634 = .ok (.aload_n 3, 1) := by decide +kernel
theorem dL_law_1635 : decode cL_law 1635 = .ok (.invokestatic 181, 3) := by decide +kernel
theorem dL_law_1638 : decode cL_law 1638 = .ok (.istore 5, 2) := by decide +kernel
theorem dL_law_1640 : decode cL_law 1640 = .ok (.aload_n 2, 1) := by decide +kernel
theorem dL_law_1641 : decode cL_law 1641 = .ok (.aload_n 0, 1) := by decide +kernel
theorem dL_law_1642 : decode cL_law 1642 = .ok (.iload 4, 2) := by decide +kernel
theorem dL_law_1644 : decode cL_law 1644 = .ok (.iconst 1, 1) := by decide +kernel
theorem dL_law_1645 : decode cL_law 1645 = .ok (.iadd, 1) := by decide +kernel
theorem dL_law_1646 : decode cL_law 1646 = .ok (.iaload, 1) := by decide +kernel
theorem dL_law_1647 : decode cL_law 1647 = .ok (.invokevirtual 183, 3) := by decide +kernel
theorem dL_law_1650 : decode cL_law 1650 = .ok (.istore 6, 2) := by decide +kernel
theorem dL_law_1652 : decode cL_law 1652 = .ok (.aload_n 2, 1) := by decide +kernel
theorem dL_law_1653 : decode cL_law 1653 = .ok (.invokevirtual 104, 3) := by decide +kernel
theorem dL_law_1656 : decode cL_law 1656 = .ok (.iload 5, 2) := by decide +kernel
theorem dL_law_1658 : decode cL_law 1658 = .ok (.if_icmp .eq 5, 3) := by decide +kernel
theorem dL_law_1661 : decode cL_law 1661 = .ok (.iconst 0, 1) := by decide +kernel
theorem dL_law_1662 : decode cL_law 1662 = .ok (.ireturn, 1) := by decide +kernel
theorem dL_law_1663 : decode cL_law 1663 = .ok (.iload 5, 2) := by decide +kernel
theorem dL_law_1665 : decode cL_law 1665 = .ok (.ifCond .ne 15, 3) := by decide +kernel
theorem dL_law_1668 : decode cL_law 1668 = .ok (.aload_n 3, 1) := by decide +kernel
theorem dL_law_1669 : decode cL_law 1669 = .ok (.iconst 0, 1) := by decide +kernel
theorem dL_law_1670 : decode cL_law 1670 = .ok (.laload, 1) := by decide +kernel
theorem dL_law_1671 : decode cL_law 1671 = .ok (.iload 6, 2) := by decide +kernel
theorem dL_law_1673 : decode cL_law 1673 = .ok (.i2l, 1) := by decide +kernel
theorem dL_law_1674 : decode cL_law 1674 = .ok (.lcmp, 1) := by decide +kernel
theorem dL_law_1675 : decode cL_law 1675 = .ok (.ifCond .eq 5, 3) := by decide +kernel
theorem dL_law_1678 : decode cL_law 1678 = .ok (.iconst 0, 1) := by decide +kernel
theorem dL_law_1679 : decode cL_law 1679 = .ok (.ireturn, 1) := by decide +kernel
theorem dL_law_1680 : decode cL_law 1680 = .ok (.goto 16, 3) := by decide +kernel
theorem dL_law_1683 : decode cL_law 1683 = .ok (.aload_n 1, 1) := by decide +kernel
theorem dL_law_1684 : decode cL_law 1684 = .ok (.invokevirtual 184, 3) := by decide +kernel
theorem dL_law_1687 : decode cL_law 1687 = .ok (.aload_n 2, 1) := by decide +kernel
theorem dL_law_1688 : decode cL_law 1688 = .ok (.invokevirtual 187, 3) := by decide +kernel
theorem dL_law_1691 : decode cL_law 1691 = .ok (.if_icmp .eq 5, 3) := by decide +kernel
theorem dL_law_1694 : decode cL_law 1694 = .ok (.iconst 0, 1) := by decide +kernel
theorem dL_law_1695 : decode cL_law 1695 = .ok (.ireturn, 1) := by decide +kernel
theorem dL_law_1696 : decode cL_law 1696 = .ok (.iinc 4 6, 3) := by decide +kernel
theorem dL_law_1699 : decode cL_law 1699 = .ok (.goto (-1676), 3) := by decide +kernel
theorem dL_law_1702 : decode cL_law 1702 = .ok (.iconst 1, 1) := by decide +kernel
theorem dL_law_1703 : decode cL_law 1703 = .ok (.ireturn, 1) := by decide +kernel
end
section
theorem dJxa1e45_init_da8c8_0 : decode cJxa1e45_init_da8c8 0 = .ok (.aload_n 0, 1) := by decide +kernel
theorem dJxa1e45_init_da8c8_1 : decode cJxa1e45_init_da8c8 1 = .ok (.invokespecial 1, 3) := by decide +kernel
theorem dJxa1e45_init_da8c8_4 : decode cJxa1e45_init_da8c8 4 = .ok (.return_, 1) := by decide +kernel
theorem dJxc12de_init_da8c8_0 : decode cJxc12de_init_da8c8 0 = .ok (.aload_n 0, 1) := by decide +kernel
theorem dJxc12de_init_da8c8_1 : decode cJxc12de_init_da8c8 1 = .ok (.invokespecial 1, 3) := by decide +kernel
theorem dJxc12de_init_da8c8_4 : decode cJxc12de_init_da8c8 4 = .ok (.aload_n 0, 1) := by decide +kernel
theorem dJxc12de_init_da8c8_5 : decode cJxc12de_init_da8c8 5 = .ok (.iconst 0, 1) := by decide +kernel
theorem dJxc12de_init_da8c8_6 : decode cJxc12de_init_da8c8 6 = .ok (.putfield 7, 3) := by decide +kernel
theorem dJxc12de_init_da8c8_9 : decode cJxc12de_init_da8c8 9 = .ok (.return_, 1) := by decide +kernel
theorem dJx4a65c_init_da8c8_0 : decode cJx4a65c_init_da8c8 0 = .ok (.aload_n 0, 1) := by decide +kernel
theorem dJx4a65c_init_da8c8_1 : decode cJx4a65c_init_da8c8 1 = .ok (.invokespecial 1, 3) := by decide +kernel
theorem dJx4a65c_init_da8c8_4 : decode cJx4a65c_init_da8c8 4 = .ok (.aload_n 0, 1) := by decide +kernel
theorem dJx4a65c_init_da8c8_5 : decode cJx4a65c_init_da8c8 5 = .ok (.getstatic 39, 3) := by decide +kernel
theorem dJx4a65c_init_da8c8_8 : decode cJx4a65c_init_da8c8 8 = .ok (.putfield 9, 3) := by decide +kernel
theorem dJx4a65c_init_da8c8_11 : decode cJx4a65c_init_da8c8 11 = .ok (.return_, 1) := by decide +kernel
theorem dJx4a65c_grow_92f84_0 : decode cJx4a65c_grow_92f84 0 = .ok (.aload_n 0, 1) := by decide +kernel
theorem dJx4a65c_grow_92f84_1 : decode cJx4a65c_grow_92f84 1 = .ok (.getfield 9, 3) := by decide +kernel
theorem dJx4a65c_grow_92f84_4 : decode cJx4a65c_grow_92f84 4 = .ok (.arraylength, 1) := by decide +kernel
theorem dJx4a65c_grow_92f84_5 : decode cJx4a65c_grow_92f84 5 = .ok (.istore_n 2, 1) := by decide +kernel
theorem dJx4a65c_grow_92f84_6 : decode cJx4a65c_grow_92f84 6 = .ok (.iload_n 2, 1) := by decide +kernel
theorem dJx4a65c_grow_92f84_7 : decode cJx4a65c_grow_92f84 7 = .ok (.ifCond .gt 13, 3) := by decide +kernel
theorem dJx4a65c_grow_92f84_10 : decode cJx4a65c_grow_92f84 10 = .ok (.aload_n 0, 1) := by decide +kernel
theorem dJx4a65c_grow_92f84_11 : decode cJx4a65c_grow_92f84 11 = .ok (.getfield 9, 3) := by decide +kernel
theorem dJx4a65c_grow_92f84_14 : decode cJx4a65c_grow_92f84 14 = .ok (.getstatic 39, 3) := by decide +kernel
theorem dJx4a65c_grow_92f84_17 : decode cJx4a65c_grow_92f84 17 = .ok (.if_acmp .eq 28, 3) := by decide +kernel
theorem dJx4a65c_grow_92f84_20 : decode cJx4a65c_grow_92f84 20 = .ok (.iload_n 2, 1) := by decide +kernel
theorem dJx4a65c_grow_92f84_21 : decode cJx4a65c_grow_92f84 21 = .ok (.iload_n 1, 1) := by decide +kernel
theorem dJx4a65c_grow_92f84_22 : decode cJx4a65c_grow_92f84 22 = .ok (.iload_n 2, 1) := by decide +kernel
theorem dJx4a65c_grow_92f84_23 : decode cJx4a65c_grow_92f84 23 = .ok (.isub, 1) := by decide +kernel
theorem dJx4a65c_grow_92f84_24 : decode cJx4a65c_grow_92f84 24 = .ok (.iload_n 2, 1) := by decide +kernel
theorem dJx4a65c_grow_92f84_25 : decode cJx4a65c_grow_92f84 25 = .ok (.iconst 1, 1) := by decide +kernel
theorem dJx4a65c_grow_92f84_26 : decode cJx4a65c_grow_92f84 26 = .ok (.ishr, 1) := by decide +kernel
theorem dJx4a65c_grow_92f84_27 : decode cJx4a65c_grow_92f84 27 = .ok (.invokestatic 73, 3) := by decide +kernel
theorem dJx4a65c_grow_92f84_30 : decode cJx4a65c_grow_92f84 30 = .ok (.istore_n 3, 1) := by decide +kernel
theorem dJx4a65c_grow_92f84_31 : decode cJx4a65c_grow_92f84 31 = .ok (.aload_n 0, 1) := by decide +kernel
theorem dJx4a65c_grow_92f84_32 : decode cJx4a65c_grow_92f84 32 = .ok (.aload_n 0, 1) := by decide +kernel
theorem dJx4a65c_grow_92f84_33 : decode cJx4a65c_grow_92f84 33 = .ok (.getfield 9, 3) := by decide +kernel
theorem dJx4a65c_grow_92f84_36 : decode cJx4a65c_grow_92f84 36 = .ok (.iload_n 3, 1) := by decide +kernel
theorem dJx4a65c_grow_92f84_37 : decode cJx4a65c_grow_92f84 37 = .ok (.invokestatic 66, 3) := by decide +kernel
theorem dJx4a65c_grow_92f84_40 : decode cJx4a65c_grow_92f84 40 = .ok (.dup_x1, 1) := by decide +kernel
theorem dJx4a65c_grow_92f84_41 : decode cJx4a65c_grow_92f84 41 = .ok (.putfield 9, 3) := by decide +kernel
theorem dJx4a65c_grow_92f84_44 : decode cJx4a65c_grow_92f84 44 = .ok (.areturn, 1) := by decide +kernel
theorem dJx4a65c_grow_92f84_45 : decode cJx4a65c_grow_92f84 45 = .ok (.aload_n 0, 1) := by decide +kernel
theorem dJx4a65c_grow_92f84_46 : decode cJx4a65c_grow_92f84 46 = .ok (.bipush 10, 2) := by decide +kernel
theorem dJx4a65c_grow_92f84_48 : decode cJx4a65c_grow_92f84 48 = .ok (.iload_n 1, 1) := by decide +kernel
theorem dJx4a65c_grow_92f84_49 : decode cJx4a65c_grow_92f84 49 = .ok (.invokestatic 79, 3) := by decide +kernel
theorem dJx4a65c_grow_92f84_52 : decode cJx4a65c_grow_92f84 52 = .ok (.anewarray 7, 3) := by decide +kernel
theorem dJx4a65c_grow_92f84_55 : decode cJx4a65c_grow_92f84 55 = .ok (.dup_x1, 1) := by decide +kernel
theorem dJx4a65c_grow_92f84_56 : decode cJx4a65c_grow_92f84 56 = .ok (.putfield 9, 3) := by decide +kernel
theorem dJx4a65c_grow_92f84_59 : decode cJx4a65c_grow_92f84 59 = .ok (.areturn, 1) := by decide +kernel
theorem dJx4a65c_grow_d5877_0 : decode cJx4a65c_grow_d5877 0 = .ok (.aload_n 0, 1) := by decide +kernel
theorem dJx4a65c_grow_d5877_1 : decode cJx4a65c_grow_d5877 1 = .ok (.aload_n 0, 1) := by decide +kernel
theorem dJx4a65c_grow_d5877_2 : decode cJx4a65c_grow_d5877 2 = .ok (.getfield 48, 3) := by decide +kernel
theorem dJx4a65c_grow_d5877_5 : decode cJx4a65c_grow_d5877 5 = .ok (.iconst 1, 1) := by decide +kernel
theorem dJx4a65c_grow_d5877_6 : decode cJx4a65c_grow_d5877 6 = .ok (.iadd, 1) := by decide +kernel
theorem dJx4a65c_grow_d5877_7 : decode cJx4a65c_grow_d5877 7 = .ok (.invokevirtual 69, 3) := by decide +kernel
theorem dJx4a65c_grow_d5877_10 : decode cJx4a65c_grow_d5877 10 = .ok (.areturn, 1) := by decide +kernel
theorem dJx4a65c_size_8abf5_0 : decode cJx4a65c_size_8abf5 0 = .ok (.aload_n 0, 1) := by decide +kernel
theorem dJx4a65c_size_8abf5_1 : decode cJx4a65c_size_8abf5 1 = .ok (.getfield 48, 3) := by decide +kernel
theorem dJx4a65c_size_8abf5_4 : decode cJx4a65c_size_8abf5 4 = .ok (.ireturn, 1) := by decide +kernel
theorem dJx4a65c_elementData_915e3_0 : decode cJx4a65c_elementData_915e3 0 = .ok (.aload_n 0, 1) := by decide +kernel
theorem dJx4a65c_elementData_915e3_1 : decode cJx4a65c_elementData_915e3 1 = .ok (.getfield 9, 3) := by decide +kernel
theorem dJx4a65c_elementData_915e3_4 : decode cJx4a65c_elementData_915e3 4 = .ok (.iload_n 1, 1) := by decide +kernel
theorem dJx4a65c_elementData_915e3_5 : decode cJx4a65c_elementData_915e3 5 = .ok (.aaload, 1) := by decide +kernel
theorem dJx4a65c_elementData_915e3_6 : decode cJx4a65c_elementData_915e3 6 = .ok (.areturn, 1) := by decide +kernel
theorem dJx4a65c_get_915e3_0 : decode cJx4a65c_get_915e3 0 = .ok (.iload_n 1, 1) := by decide +kernel
theorem dJx4a65c_get_915e3_1 : decode cJx4a65c_get_915e3 1 = .ok (.aload_n 0, 1) := by decide +kernel
theorem dJx4a65c_get_915e3_2 : decode cJx4a65c_get_915e3 2 = .ok (.getfield 48, 3) := by decide +kernel
theorem dJx4a65c_get_915e3_5 : decode cJx4a65c_get_915e3 5 = .ok (.invokestatic 118, 3) := by decide +kernel
theorem dJx4a65c_get_915e3_8 : decode cJx4a65c_get_915e3 8 = .ok (.pop, 1) := by decide +kernel
theorem dJx4a65c_get_915e3_9 : decode cJx4a65c_get_915e3 9 = .ok (.aload_n 0, 1) := by decide +kernel
theorem dJx4a65c_get_915e3_10 : decode cJx4a65c_get_915e3 10 = .ok (.iload_n 1, 1) := by decide +kernel
theorem dJx4a65c_get_915e3_11 : decode cJx4a65c_get_915e3 11 = .ok (.invokevirtual 123, 3) := by decide +kernel
theorem dJx4a65c_get_915e3_14 : decode cJx4a65c_get_915e3 14 = .ok (.areturn, 1) := by decide +kernel
theorem dJx4a65c_add_72be8_0 : decode cJx4a65c_add_72be8 0 = .ok (.iload_n 3, 1) := by decide +kernel
theorem dJx4a65c_add_72be8_1 : decode cJx4a65c_add_72be8 1 = .ok (.aload_n 2, 1) := by decide +kernel
theorem dJx4a65c_add_72be8_2 : decode cJx4a65c_add_72be8 2 = .ok (.arraylength, 1) := by decide +kernel
theorem dJx4a65c_add_72be8_3 : decode cJx4a65c_add_72be8 3 = .ok (.if_icmp .ne 8, 3) := by decide +kernel
theorem dJx4a65c_add_72be8_6 : decode cJx4a65c_add_72be8 6 = .ok (.aload_n 0, 1) := by decide +kernel
theorem dJx4a65c_add_72be8_7 : decode cJx4a65c_add_72be8 7 = .ok (.invokevirtual 129, 3) := by decide +kernel
theorem dJx4a65c_add_72be8_10 : decode cJx4a65c_add_72be8 10 = .ok (.astore_n 2, 1) := by decide +kernel
theorem dJx4a65c_add_72be8_11 : decode cJx4a65c_add_72be8 11 = .ok (.aload_n 2, 1) := by decide +kernel
theorem dJx4a65c_add_72be8_12 : decode cJx4a65c_add_72be8 12 = .ok (.iload_n 3, 1) := by decide +kernel
theorem dJx4a65c_add_72be8_13 : decode cJx4a65c_add_72be8 13 = .ok (.aload_n 1, 1) := by decide +kernel
theorem dJx4a65c_add_72be8_14 : decode cJx4a65c_add_72be8 14 = .ok (.aastore, 1) := by decide +kernel
theorem dJx4a65c_add_72be8_15 : decode cJx4a65c_add_72be8 15 = .ok (.aload_n 0, 1) := by decide +kernel
theorem dJx4a65c_add_72be8_16 : decode cJx4a65c_add_72be8 16 = .ok (.iload_n 3, 1) := by decide +kernel
theorem dJx4a65c_add_72be8_17 : decode cJx4a65c_add_72be8 17 = .ok (.iconst 1, 1) := by decide +kernel
theorem dJx4a65c_add_72be8_18 : decode cJx4a65c_add_72be8 18 = .ok (.iadd, 1) := by decide +kernel
theorem dJx4a65c_add_72be8_19 : decode cJx4a65c_add_72be8 19 = .ok (.putfield 48, 3) := by decide +kernel
theorem dJx4a65c_add_72be8_22 : decode cJx4a65c_add_72be8 22 = .ok (.return_, 1) := by decide +kernel
theorem dJx4a65c_add_9ea2d_0 : decode cJx4a65c_add_9ea2d 0 = .ok (.aload_n 0, 1) := by decide +kernel
theorem dJx4a65c_add_9ea2d_1 : decode cJx4a65c_add_9ea2d 1 = .ok (.dup, 1) := by decide +kernel
theorem dJx4a65c_add_9ea2d_2 : decode cJx4a65c_add_9ea2d 2 = .ok (.getfield 63, 3) := by decide +kernel
theorem dJx4a65c_add_9ea2d_5 : decode cJx4a65c_add_9ea2d 5 = .ok (.iconst 1, 1) := by decide +kernel
theorem dJx4a65c_add_9ea2d_6 : decode cJx4a65c_add_9ea2d 6 = .ok (.iadd, 1) := by decide +kernel
theorem dJx4a65c_add_9ea2d_7 : decode cJx4a65c_add_9ea2d 7 = .ok (.putfield 63, 3) := by decide +kernel
theorem dJx4a65c_add_9ea2d_10 : decode cJx4a65c_add_9ea2d 10 = .ok (.aload_n 0, 1) := by decide +kernel
theorem dJx4a65c_add_9ea2d_11 : decode cJx4a65c_add_9ea2d 11 = .ok (.aload_n 1, 1) := by decide +kernel
theorem dJx4a65c_add_9ea2d_12 : decode cJx4a65c_add_9ea2d 12 = .ok (.aload_n 0, 1) := by decide +kernel
theorem dJx4a65c_add_9ea2d_13 : decode cJx4a65c_add_9ea2d 13 = .ok (.getfield 9, 3) := by decide +kernel
theorem dJx4a65c_add_9ea2d_16 : decode cJx4a65c_add_9ea2d 16 = .ok (.aload_n 0, 1) := by decide +kernel
theorem dJx4a65c_add_9ea2d_17 : decode cJx4a65c_add_9ea2d 17 = .ok (.getfield 48, 3) := by decide +kernel
theorem dJx4a65c_add_9ea2d_20 : decode cJx4a65c_add_9ea2d 20 = .ok (.invokevirtual 131, 3) := by decide +kernel
theorem dJx4a65c_add_9ea2d_23 : decode cJx4a65c_add_9ea2d 23 = .ok (.iconst 1, 1) := by decide +kernel
theorem dJx4a65c_add_9ea2d_24 : decode cJx4a65c_add_9ea2d 24 = .ok (.ireturn, 1) := by decide +kernel
theorem dJx4a65c_remove_915e3_0 : decode cJx4a65c_remove_915e3 0 = .ok (.iload_n 1, 1) := by decide +kernel
theorem dJx4a65c_remove_915e3_1 : decode cJx4a65c_remove_915e3 1 = .ok (.aload_n 0, 1) := by decide +kernel
theorem dJx4a65c_remove_915e3_2 : decode cJx4a65c_remove_915e3 2 = .ok (.getfield 48, 3) := by decide +kernel
theorem dJx4a65c_remove_915e3_5 : decode cJx4a65c_remove_915e3 5 = .ok (.invokestatic 118, 3) := by decide +kernel
theorem dJx4a65c_remove_915e3_8 : decode cJx4a65c_remove_915e3 8 = .ok (.pop, 1) := by decide +kernel
theorem dJx4a65c_remove_915e3_9 : decode cJx4a65c_remove_915e3 9 = .ok (.aload_n 0, 1) := by decide +kernel
theorem dJx4a65c_remove_915e3_10 : decode cJx4a65c_remove_915e3 10 = .ok (.getfield 9, 3) := by decide +kernel
theorem dJx4a65c_remove_915e3_13 : decode cJx4a65c_remove_915e3 13 = .ok (.astore_n 2, 1) := by decide +kernel
theorem dJx4a65c_remove_915e3_14 : decode cJx4a65c_remove_915e3 14 = .ok (.aload_n 2, 1) := by decide +kernel
theorem dJx4a65c_remove_915e3_15 : decode cJx4a65c_remove_915e3 15 = .ok (.iload_n 1, 1) := by decide +kernel
theorem dJx4a65c_remove_915e3_16 : decode cJx4a65c_remove_915e3 16 = .ok (.aaload, 1) := by decide +kernel
theorem dJx4a65c_remove_915e3_17 : decode cJx4a65c_remove_915e3 17 = .ok (.astore_n 3, 1) := by decide +kernel
theorem dJx4a65c_remove_915e3_18 : decode cJx4a65c_remove_915e3 18 = .ok (.aload_n 0, 1) := by decide +kernel
theorem dJx4a65c_remove_915e3_19 : decode cJx4a65c_remove_915e3 19 = .ok (.aload_n 2, 1) := by decide +kernel
theorem dJx4a65c_remove_915e3_20 : decode cJx4a65c_remove_915e3 20 = .ok (.iload_n 1, 1) := by decide +kernel
theorem dJx4a65c_remove_915e3_21 : decode cJx4a65c_remove_915e3 21 = .ok (.invokevirtual 144, 3) := by decide +kernel
theorem dJx4a65c_remove_915e3_24 : decode cJx4a65c_remove_915e3 24 = .ok (.aload_n 3, 1) := by decide +kernel
theorem dJx4a65c_remove_915e3_25 : decode cJx4a65c_remove_915e3 25 = .ok (.areturn, 1) := by decide +kernel
theorem dJx4a65c_fastRemove_b59b0_0 : decode cJx4a65c_fastRemove_b59b0 0 = .ok (.aload_n 0, 1) := by decide +kernel
theorem dJx4a65c_fastRemove_b59b0_1 : decode cJx4a65c_fastRemove_b59b0 1 = .ok (.dup, 1) := by decide +kernel
theorem dJx4a65c_fastRemove_b59b0_2 : decode cJx4a65c_fastRemove_b59b0 2 = .ok (.getfield 63, 3) := by decide +kernel
theorem dJx4a65c_fastRemove_b59b0_5 : decode cJx4a65c_fastRemove_b59b0 5 = .ok (.iconst 1, 1) := by decide +kernel
theorem dJx4a65c_fastRemove_b59b0_6 : decode cJx4a65c_fastRemove_b59b0 6 = .ok (.iadd, 1) := by decide +kernel
theorem dJx4a65c_fastRemove_b59b0_7 : decode cJx4a65c_fastRemove_b59b0 7 = .ok (.putfield 63, 3) := by decide +kernel
theorem dJx4a65c_fastRemove_b59b0_10 : decode cJx4a65c_fastRemove_b59b0 10 = .ok (.aload_n 0, 1) := by decide +kernel
theorem dJx4a65c_fastRemove_b59b0_11 : decode cJx4a65c_fastRemove_b59b0 11 = .ok (.getfield 48, 3) := by decide +kernel
theorem dJx4a65c_fastRemove_b59b0_14 : decode cJx4a65c_fastRemove_b59b0 14 = .ok (.iconst 1, 1) := by decide +kernel
theorem dJx4a65c_fastRemove_b59b0_15 : decode cJx4a65c_fastRemove_b59b0 15 = .ok (.isub, 1) := by decide +kernel
theorem dJx4a65c_fastRemove_b59b0_16 : decode cJx4a65c_fastRemove_b59b0 16 = .ok (.dup, 1) := by decide +kernel
theorem dJx4a65c_fastRemove_b59b0_17 : decode cJx4a65c_fastRemove_b59b0 17 = .ok (.istore_n 3, 1) := by decide +kernel
theorem dJx4a65c_fastRemove_b59b0_18 : decode cJx4a65c_fastRemove_b59b0 18 = .ok (.iload_n 2, 1) := by decide +kernel
theorem dJx4a65c_fastRemove_b59b0_19 : decode cJx4a65c_fastRemove_b59b0 19 = .ok (.if_icmp .le 15, 3) := by decide +kernel
theorem dJx4a65c_fastRemove_b59b0_22 : decode cJx4a65c_fastRemove_b59b0 22 = .ok (.aload_n 1, 1) := by decide +kernel
theorem dJx4a65c_fastRemove_b59b0_23 : decode cJx4a65c_fastRemove_b59b0 23 = .ok (.iload_n 2, 1) := by decide +kernel
theorem dJx4a65c_fastRemove_b59b0_24 : decode cJx4a65c_fastRemove_b59b0 24 = .ok (.iconst 1, 1) := by decide +kernel
theorem dJx4a65c_fastRemove_b59b0_25 : decode cJx4a65c_fastRemove_b59b0 25 = .ok (.iadd, 1) := by decide +kernel
theorem dJx4a65c_fastRemove_b59b0_26 : decode cJx4a65c_fastRemove_b59b0 26 = .ok (.aload_n 1, 1) := by decide +kernel
theorem dJx4a65c_fastRemove_b59b0_27 : decode cJx4a65c_fastRemove_b59b0 27 = .ok (.iload_n 2, 1) := by decide +kernel
theorem dJx4a65c_fastRemove_b59b0_28 : decode cJx4a65c_fastRemove_b59b0 28 = .ok (.iload_n 3, 1) := by decide +kernel
theorem dJx4a65c_fastRemove_b59b0_29 : decode cJx4a65c_fastRemove_b59b0 29 = .ok (.iload_n 2, 1) := by decide +kernel
theorem dJx4a65c_fastRemove_b59b0_30 : decode cJx4a65c_fastRemove_b59b0 30 = .ok (.isub, 1) := by decide +kernel
theorem dJx4a65c_fastRemove_b59b0_31 : decode cJx4a65c_fastRemove_b59b0 31 = .ok (.invokestatic 112, 3) := by decide +kernel
theorem dJx4a65c_fastRemove_b59b0_34 : decode cJx4a65c_fastRemove_b59b0 34 = .ok (.aload_n 1, 1) := by decide +kernel
theorem dJx4a65c_fastRemove_b59b0_35 : decode cJx4a65c_fastRemove_b59b0 35 = .ok (.aload_n 0, 1) := by decide +kernel
theorem dJx4a65c_fastRemove_b59b0_36 : decode cJx4a65c_fastRemove_b59b0 36 = .ok (.iload_n 3, 1) := by decide +kernel
theorem dJx4a65c_fastRemove_b59b0_37 : decode cJx4a65c_fastRemove_b59b0 37 = .ok (.dup_x1, 1) := by decide +kernel
theorem dJx4a65c_fastRemove_b59b0_38 : decode cJx4a65c_fastRemove_b59b0 38 = .ok (.putfield 48, 3) := by decide +kernel
theorem dJx4a65c_fastRemove_b59b0_41 : decode cJx4a65c_fastRemove_b59b0 41 = .ok (.aconst_null, 1) := by decide +kernel
theorem dJx4a65c_fastRemove_b59b0_42 : decode cJx4a65c_fastRemove_b59b0 42 = .ok (.aastore, 1) := by decide +kernel
theorem dJx4a65c_fastRemove_b59b0_43 : decode cJx4a65c_fastRemove_b59b0 43 = .ok (.return_, 1) := by decide +kernel
theorem dJx4a65c_clear_da8c8_0 : decode cJx4a65c_clear_da8c8 0 = .ok (.aload_n 0, 1) := by decide +kernel
theorem dJx4a65c_clear_da8c8_1 : decode cJx4a65c_clear_da8c8 1 = .ok (.dup, 1) := by decide +kernel
theorem dJx4a65c_clear_da8c8_2 : decode cJx4a65c_clear_da8c8 2 = .ok (.getfield 63, 3) := by decide +kernel
theorem dJx4a65c_clear_da8c8_5 : decode cJx4a65c_clear_da8c8 5 = .ok (.iconst 1, 1) := by decide +kernel
theorem dJx4a65c_clear_da8c8_6 : decode cJx4a65c_clear_da8c8 6 = .ok (.iadd, 1) := by decide +kernel
theorem dJx4a65c_clear_da8c8_7 : decode cJx4a65c_clear_da8c8 7 = .ok (.putfield 63, 3) := by decide +kernel
theorem dJx4a65c_clear_da8c8_10 : decode cJx4a65c_clear_da8c8 10 = .ok (.aload_n 0, 1) := by decide +kernel
theorem dJx4a65c_clear_da8c8_11 : decode cJx4a65c_clear_da8c8 11 = .ok (.getfield 9, 3) := by decide +kernel
theorem dJx4a65c_clear_da8c8_14 : decode cJx4a65c_clear_da8c8 14 = .ok (.astore_n 1, 1) := by decide +kernel
theorem dJx4a65c_clear_da8c8_15 : decode cJx4a65c_clear_da8c8 15 = .ok (.aload_n 0, 1) := by decide +kernel
theorem dJx4a65c_clear_da8c8_16 : decode cJx4a65c_clear_da8c8 16 = .ok (.getfield 48, 3) := by decide +kernel
theorem dJx4a65c_clear_da8c8_19 : decode cJx4a65c_clear_da8c8 19 = .ok (.istore_n 2, 1) := by decide +kernel
theorem dJx4a65c_clear_da8c8_20 : decode cJx4a65c_clear_da8c8 20 = .ok (.aload_n 0, 1) := by decide +kernel
theorem dJx4a65c_clear_da8c8_21 : decode cJx4a65c_clear_da8c8 21 = .ok (.iconst 0, 1) := by decide +kernel
theorem dJx4a65c_clear_da8c8_22 : decode cJx4a65c_clear_da8c8 22 = .ok (.dup_x1, 1) := by decide +kernel
theorem dJx4a65c_clear_da8c8_23 : decode cJx4a65c_clear_da8c8 23 = .ok (.putfield 48, 3) := by decide +kernel
theorem dJx4a65c_clear_da8c8_26 : decode cJx4a65c_clear_da8c8 26 = .ok (.istore_n 3, 1) := by decide +kernel
theorem dJx4a65c_clear_da8c8_27 : decode cJx4a65c_clear_da8c8 27 = .ok (.iload_n 3, 1) := by decide +kernel
theorem dJx4a65c_clear_da8c8_28 : decode cJx4a65c_clear_da8c8 28 = .ok (.iload_n 2, 1) := by decide +kernel
theorem dJx4a65c_clear_da8c8_29 : decode cJx4a65c_clear_da8c8 29 = .ok (.if_icmp .ge 13, 3) := by decide +kernel
theorem dJx4a65c_clear_da8c8_32 : decode cJx4a65c_clear_da8c8 32 = .ok (.aload_n 1, 1) := by decide +kernel
theorem dJx4a65c_clear_da8c8_33 : decode cJx4a65c_clear_da8c8 33 = .ok (.iload_n 3, 1) := by decide +kernel
theorem dJx4a65c_clear_da8c8_34 : decode cJx4a65c_clear_da8c8 34 = .ok (.aconst_null, 1) := by decide +kernel
theorem dJx4a65c_clear_da8c8_35 : decode cJx4a65c_clear_da8c8 35 = .ok (.aastore, 1) := by decide +kernel
theorem dJx4a65c_clear_da8c8_36 : decode cJx4a65c_clear_da8c8 36 = .ok (.iinc 3 1, 3) := by decide +kernel
theorem dJx4a65c_clear_da8c8_39 : decode cJx4a65c_clear_da8c8 39 = .ok (.goto (-12), 3) := by decide +kernel
theorem dJx4a65c_clear_da8c8_42 : decode cJx4a65c_clear_da8c8 42 = .ok (.return_, 1) := by decide +kernel
theorem dJ7_copyOf_1904c_0 : decode cJ7_copyOf_1904c 0 = .ok (.aload_n 0, 1) := by decide +kernel
theorem dJ7_copyOf_1904c_1 : decode cJ7_copyOf_1904c 1 = .ok (.iload_n 1, 1) := by decide +kernel
theorem dJ7_copyOf_1904c_2 : decode cJ7_copyOf_1904c 2 = .ok (.aload_n 0, 1) := by decide +kernel
theorem dJ7_copyOf_1904c_3 : decode cJ7_copyOf_1904c 3 = .ok (.invokevirtual 86, 3) := by decide +kernel
theorem dJ7_copyOf_1904c_6 : decode cJ7_copyOf_1904c 6 = .ok (.invokestatic 300, 3) := by decide +kernel
theorem dJ7_copyOf_1904c_9 : decode cJ7_copyOf_1904c 9 = .ok (.areturn, 1) := by decide +kernel
theorem dJ7_copyOf_6403c_0 : decode cJ7_copyOf_6403c 0 = .ok (.aload_n 2, 1) := by decide +kernel
theorem dJ7_copyOf_6403c_1 : decode cJ7_copyOf_6403c 1 = .ok (.ldc 110, 2) := by decide +kernel
theorem dJ7_copyOf_6403c_3 : decode cJ7_copyOf_6403c 3 = .ok (.if_acmp .ne 10, 3) := by decide +kernel
theorem dJ7_copyOf_6403c_6 : decode cJ7_copyOf_6403c 6 = .ok (.iload_n 1, 1) := by decide +kernel
theorem dJ7_copyOf_6403c_7 : decode cJ7_copyOf_6403c 7 = .ok (.anewarray 2, 3) := by decide +kernel
theorem dJ7_copyOf_6403c_10 : decode cJ7_copyOf_6403c 10 = .ok (.goto 14, 3) := by decide +kernel
theorem dJ7_copyOf_6403c_13 : decode cJ7_copyOf_6403c 13 = .ok (.aload_n 2, 1) := by decide +kernel
theorem dJ7_copyOf_6403c_14 : decode cJ7_copyOf_6403c 14 = .ok (.invokevirtual 90, 3) := by decide +kernel
theorem dJ7_copyOf_6403c_17 : decode cJ7_copyOf_6403c 17 = .ok (.iload_n 1, 1) := by decide +kernel
theorem dJ7_copyOf_6403c_18 : decode cJ7_copyOf_6403c 18 = .ok (.invokestatic 95, 3) := by decide +kernel
theorem dJ7_copyOf_6403c_21 : decode cJ7_copyOf_6403c 21 = .ok (.checkcast 110, 3) := by decide +kernel
theorem dJ7_copyOf_6403c_24 : decode cJ7_copyOf_6403c 24 = .ok (.astore_n 3, 1) := by decide +kernel
theorem dJ7_copyOf_6403c_25 : decode cJ7_copyOf_6403c 25 = .ok (.aload_n 0, 1) := by decide +kernel
theorem dJ7_copyOf_6403c_26 : decode cJ7_copyOf_6403c 26 = .ok (.iconst 0, 1) := by decide +kernel
theorem dJ7_copyOf_6403c_27 : decode cJ7_copyOf_6403c 27 = .ok (.aload_n 3, 1) := by decide +kernel
theorem dJ7_copyOf_6403c_28 : decode cJ7_copyOf_6403c 28 = .ok (.iconst 0, 1) := by decide +kernel
theorem dJ7_copyOf_6403c_29 : decode cJ7_copyOf_6403c 29 = .ok (.aload_n 0, 1) := by decide +kernel
theorem dJ7_copyOf_6403c_30 : decode cJ7_copyOf_6403c 30 = .ok (.arraylength, 1) := by decide +kernel
theorem dJ7_copyOf_6403c_31 : decode cJ7_copyOf_6403c 31 = .ok (.iload_n 1, 1) := by decide +kernel
theorem dJ7_copyOf_6403c_32 : decode cJ7_copyOf_6403c 32 = .ok (.invokestatic 304, 3) := by decide +kernel
theorem dJ7_copyOf_6403c_35 : decode cJ7_copyOf_6403c 35 = .ok (.invokestatic 150, 3) := by decide +kernel
theorem dJ7_copyOf_6403c_38 : decode cJ7_copyOf_6403c 38 = .ok (.aload_n 3, 1) := by decide +kernel
theorem dJ7_copyOf_6403c_39 : decode cJ7_copyOf_6403c 39 = .ok (.areturn, 1) := by decide +kernel
theorem dJ7_copyOf_9075b_0 : decode cJ7_copyOf_9075b 0 = .ok (.iload_n 1, 1) := by decide +kernel
theorem dJ7_copyOf_9075b_1 : decode cJ7_copyOf_9075b 1 = .ok (.aload_n 0, 1) := by decide +kernel
theorem dJ7_copyOf_9075b_2 : decode cJ7_copyOf_9075b 2 = .ok (.arraylength, 1) := by decide +kernel
theorem dJ7_copyOf_9075b_3 : decode cJ7_copyOf_9075b 3 = .ok (.if_icmp .ne 11, 3) := by decide +kernel
theorem dJ7_copyOf_9075b_6 : decode cJ7_copyOf_9075b 6 = .ok (.aload_n 0, 1) := by decide +kernel
theorem dJ7_copyOf_9075b_7 : decode cJ7_copyOf_9075b 7 = .ok (.invokevirtual 310, 3) := by decide +kernel
theorem dJ7_copyOf_9075b_10 : decode cJ7_copyOf_9075b 10 = .ok (.checkcast 311, 3) := by decide +kernel
theorem dJ7_copyOf_9075b_13 : decode cJ7_copyOf_9075b 13 = .ok (.areturn, 1) := by decide +kernel
theorem dJ7_copyOf_9075b_14 : decode cJ7_copyOf_9075b 14 = .ok (.iload_n 1, 1) := by decide +kernel
theorem dJ7_copyOf_9075b_15 : decode cJ7_copyOf_9075b 15 = .ok (.newarray .byte, 2) := by decide +kernel
theorem dJ7_copyOf_9075b_17 : decode cJ7_copyOf_9075b 17 = .ok (.astore_n 2, 1) := by decide +kernel
theorem dJ7_copyOf_9075b_18 : decode cJ7_copyOf_9075b 18 = .ok (.aload_n 0, 1) := by decide +kernel
theorem dJ7_copyOf_9075b_19 : decode cJ7_copyOf_9075b 19 = .ok (.iconst 0, 1) := by decide +kernel
theorem dJ7_copyOf_9075b_20 : decode cJ7_copyOf_9075b 20 = .ok (.aload_n 2, 1) := by decide +kernel
theorem dJ7_copyOf_9075b_21 : decode cJ7_copyOf_9075b 21 = .ok (.iconst 0, 1) := by decide +kernel
theorem dJ7_copyOf_9075b_22 : decode cJ7_copyOf_9075b 22 = .ok (.aload_n 0, 1) := by decide +kernel
theorem dJ7_copyOf_9075b_23 : decode cJ7_copyOf_9075b 23 = .ok (.arraylength, 1) := by decide +kernel
theorem dJ7_copyOf_9075b_24 : decode cJ7_copyOf_9075b 24 = .ok (.iload_n 1, 1) := by decide +kernel
theorem dJ7_copyOf_9075b_25 : decode cJ7_copyOf_9075b 25 = .ok (.invokestatic 304, 3) := by decide +kernel
theorem dJ7_copyOf_9075b_28 : decode cJ7_copyOf_9075b 28 = .ok (.invokestatic 150, 3) := by decide +kernel
theorem dJ7_copyOf_9075b_31 : decode cJ7_copyOf_9075b 31 = .ok (.aload_n 2, 1) := by decide +kernel
theorem dJ7_copyOf_9075b_32 : decode cJ7_copyOf_9075b 32 = .ok (.areturn, 1) := by decide +kernel
theorem dJ7_copyOf_59c91_0 : decode cJ7_copyOf_59c91 0 = .ok (.iload_n 1, 1) := by decide +kernel
theorem dJ7_copyOf_59c91_1 : decode cJ7_copyOf_59c91 1 = .ok (.aload_n 0, 1) := by decide +kernel
theorem dJ7_copyOf_59c91_2 : decode cJ7_copyOf_59c91 2 = .ok (.arraylength, 1) := by decide +kernel
theorem dJ7_copyOf_59c91_3 : decode cJ7_copyOf_59c91 3 = .ok (.if_icmp .ne 11, 3) := by decide +kernel
theorem dJ7_copyOf_59c91_6 : decode cJ7_copyOf_59c91 6 = .ok (.aload_n 0, 1) := by decide +kernel
theorem dJ7_copyOf_59c91_7 : decode cJ7_copyOf_59c91 7 = .ok (.invokevirtual 316, 3) := by decide +kernel
theorem dJ7_copyOf_59c91_10 : decode cJ7_copyOf_59c91 10 = .ok (.checkcast 317, 3) := by decide +kernel
theorem dJ7_copyOf_59c91_13 : decode cJ7_copyOf_59c91 13 = .ok (.areturn, 1) := by decide +kernel
theorem dJ7_copyOf_59c91_14 : decode cJ7_copyOf_59c91 14 = .ok (.iload_n 1, 1) := by decide +kernel
theorem dJ7_copyOf_59c91_15 : decode cJ7_copyOf_59c91 15 = .ok (.newarray .int, 2) := by decide +kernel
theorem dJ7_copyOf_59c91_17 : decode cJ7_copyOf_59c91 17 = .ok (.astore_n 2, 1) := by decide +kernel
theorem dJ7_copyOf_59c91_18 : decode cJ7_copyOf_59c91 18 = .ok (.aload_n 0, 1) := by decide +kernel
theorem dJ7_copyOf_59c91_19 : decode cJ7_copyOf_59c91 19 = .ok (.iconst 0, 1) := by decide +kernel
theorem dJ7_copyOf_59c91_20 : decode cJ7_copyOf_59c91 20 = .ok (.aload_n 2, 1) := by decide +kernel
theorem dJ7_copyOf_59c91_21 : decode cJ7_copyOf_59c91 21 = .ok (.iconst 0, 1) := by decide +kernel
theorem dJ7_copyOf_59c91_22 : decode cJ7_copyOf_59c91 22 = .ok (.aload_n 0, 1) := by decide +kernel
theorem dJ7_copyOf_59c91_23 : decode cJ7_copyOf_59c91 23 = .ok (.arraylength, 1) := by decide +kernel
theorem dJ7_copyOf_59c91_24 : decode cJ7_copyOf_59c91 24 = .ok (.iload_n 1, 1) := by decide +kernel
theorem dJ7_copyOf_59c91_25 : decode cJ7_copyOf_59c91 25 = .ok (.invokestatic 304, 3) := by decide +kernel
theorem dJ7_copyOf_59c91_28 : decode cJ7_copyOf_59c91 28 = .ok (.invokestatic 150, 3) := by decide +kernel
theorem dJ7_copyOf_59c91_31 : decode cJ7_copyOf_59c91 31 = .ok (.aload_n 2, 1) := by decide +kernel
theorem dJ7_copyOf_59c91_32 : decode cJ7_copyOf_59c91 32 = .ok (.areturn, 1) := by decide +kernel
theorem dJ7_checkLength_df160_0 : decode cJ7_checkLength_df160 0 = .ok (.iload_n 1, 1) := by decide +kernel
theorem dJ7_checkLength_df160_1 : decode cJ7_checkLength_df160 1 = .ok (.iload_n 0, 1) := by decide +kernel
theorem dJ7_checkLength_df160_2 : decode cJ7_checkLength_df160 2 = .ok (.if_icmp .ge 35, 3) := by decide +kernel
theorem dJ7_checkLength_df160_5 : decode cJ7_checkLength_df160 5 = .ok (.new 43, 3) := by decide +kernel
theorem dJ7_checkLength_df160_8 : decode cJ7_checkLength_df160 8 = .ok (.dup, 1) := by decide +kernel
theorem dJ7_checkLength_df160_9 : decode cJ7_checkLength_df160 9 = .ok (.new 45, 3) := by decide +kernel
theorem dJ7_checkLength_df160_12 : decode cJ7_checkLength_df160 12 = .ok (.dup, 1) := by decide +kernel
theorem dJ7_checkLength_df160_13 : decode cJ7_checkLength_df160 13 = .ok (.invokespecial 47, 3) := by decide +kernel
theorem dJ7_checkLength_df160_16 : decode cJ7_checkLength_df160 16 = .ok (.iload_n 0, 1) := by decide +kernel
theorem dJ7_checkLength_df160_17 : decode cJ7_checkLength_df160 17 = .ok (.invokevirtual 54, 3) := by decide +kernel
theorem dJ7_checkLength_df160_20 : decode cJ7_checkLength_df160 20 = .ok (.ldc_w 337, 3) := by decide +kernel
theorem dJ7_checkLength_df160_23 : decode cJ7_checkLength_df160 23 = .ok (.invokevirtual 50, 3) := by decide +kernel
theorem dJ7_checkLength_df160_26 : decode cJ7_checkLength_df160 26 = .ok (.iload_n 1, 1) := by decide +kernel
theorem dJ7_checkLength_df160_27 : decode cJ7_checkLength_df160 27 = .ok (.invokevirtual 54, 3) := by decide +kernel
theorem dJ7_checkLength_df160_30 : decode cJ7_checkLength_df160 30 = .ok (.invokevirtual 61, 3) := by decide +kernel
theorem dJ7_checkLength_df160_33 : decode cJ7_checkLength_df160 33 = .ok (.invokespecial 65, 3) := by decide +kernel
theorem dJ7_checkLength_df160_36 : decode cJ7_checkLength_df160 36 = .ok (.athrow, 1) := by decide +kernel
theorem dJ7_checkLength_df160_37 : decode cJ7_checkLength_df160 37 = .ok (.return_, 1) := by decide +kernel
theorem dJ7_copyOfRange_39247_0 : decode cJ7_copyOfRange_39247 0 = .ok (.iload_n 1, 1) := by decide +kernel
theorem dJ7_copyOfRange_39247_1 : decode cJ7_copyOfRange_39247 1 = .ok (.ifCond .ne 9, 3) := by decide +kernel
theorem dJ7_copyOfRange_39247_4 : decode cJ7_copyOfRange_39247 4 = .ok (.iload_n 2, 1) := by decide +kernel
theorem dJ7_copyOfRange_39247_5 : decode cJ7_copyOfRange_39247 5 = .ok (.aload_n 0, 1) := by decide +kernel
theorem dJ7_copyOfRange_39247_6 : decode cJ7_copyOfRange_39247 6 = .ok (.arraylength, 1) := by decide +kernel
theorem dJ7_copyOfRange_39247_7 : decode cJ7_copyOfRange_39247 7 = .ok (.if_icmp .eq 10, 3) := by decide +kernel
theorem dJ7_copyOfRange_39247_10 : decode cJ7_copyOfRange_39247 10 = .ok (.aload_n 0, 1) := by decide +kernel
theorem dJ7_copyOfRange_39247_11 : decode cJ7_copyOfRange_39247 11 = .ok (.iload_n 1, 1) := by decide +kernel
theorem dJ7_copyOfRange_39247_12 : decode cJ7_copyOfRange_39247 12 = .ok (.iload_n 2, 1) := by decide +kernel
theorem dJ7_copyOfRange_39247_13 : decode cJ7_copyOfRange_39247 13 = .ok (.invokestatic 339, 3) := by decide +kernel
theorem dJ7_copyOfRange_39247_16 : decode cJ7_copyOfRange_39247 16 = .ok (.areturn, 1) := by decide +kernel
theorem dJ7_copyOfRange_39247_17 : decode cJ7_copyOfRange_39247 17 = .ok (.aload_n 0, 1) := by decide +kernel
theorem dJ7_copyOfRange_39247_18 : decode cJ7_copyOfRange_39247 18 = .ok (.invokevirtual 310, 3) := by decide +kernel
theorem dJ7_copyOfRange_39247_21 : decode cJ7_copyOfRange_39247 21 = .ok (.checkcast 311, 3) := by decide +kernel
theorem dJ7_copyOfRange_39247_24 : decode cJ7_copyOfRange_39247 24 = .ok (.areturn, 1) := by decide +kernel
theorem dJ7_copyOfRangeByte_39247_0 : decode cJ7_copyOfRangeByte_39247 0 = .ok (.iload_n 1, 1) := by decide +kernel
theorem dJ7_copyOfRangeByte_39247_1 : decode cJ7_copyOfRangeByte_39247 1 = .ok (.iload_n 2, 1) := by decide +kernel
theorem dJ7_copyOfRangeByte_39247_2 : decode cJ7_copyOfRangeByte_39247 2 = .ok (.invokestatic 343, 3) := by decide +kernel
theorem dJ7_copyOfRangeByte_39247_5 : decode cJ7_copyOfRangeByte_39247 5 = .ok (.iload_n 2, 1) := by decide +kernel
theorem dJ7_copyOfRangeByte_39247_6 : decode cJ7_copyOfRangeByte_39247 6 = .ok (.iload_n 1, 1) := by decide +kernel
theorem dJ7_copyOfRangeByte_39247_7 : decode cJ7_copyOfRangeByte_39247 7 = .ok (.isub, 1) := by decide +kernel
theorem dJ7_copyOfRangeByte_39247_8 : decode cJ7_copyOfRangeByte_39247 8 = .ok (.istore_n 3, 1) := by decide +kernel
theorem dJ7_copyOfRangeByte_39247_9 : decode cJ7_copyOfRangeByte_39247 9 = .ok (.iload_n 3, 1) := by decide +kernel
theorem dJ7_copyOfRangeByte_39247_10 : decode cJ7_copyOfRangeByte_39247 10 = .ok (.newarray .byte, 2) := by decide +kernel
theorem dJ7_copyOfRangeByte_39247_12 : decode cJ7_copyOfRangeByte_39247 12 = .ok (.astore 4, 2) := by decide +kernel
theorem dJ7_copyOfRangeByte_39247_14 : decode cJ7_copyOfRangeByte_39247 14 = .ok (.aload_n 0, 1) := by decide +kernel
theorem dJ7_copyOfRangeByte_39247_15 : decode cJ7_copyOfRangeByte_39247 15 = .ok (.iload_n 1, 1) := by decide +kernel
theorem dJ7_copyOfRangeByte_39247_16 : decode cJ7_copyOfRangeByte_39247 16 = .ok (.aload 4, 2) := by decide +kernel
theorem dJ7_copyOfRangeByte_39247_18 : decode cJ7_copyOfRangeByte_39247 18 = .ok (.iconst 0, 1) := by decide +kernel
theorem dJ7_copyOfRangeByte_39247_19 : decode cJ7_copyOfRangeByte_39247 19 = .ok (.aload_n 0, 1) := by decide +kernel
theorem dJ7_copyOfRangeByte_39247_20 : decode cJ7_copyOfRangeByte_39247 20 = .ok (.arraylength, 1) := by decide +kernel
theorem dJ7_copyOfRangeByte_39247_21 : decode cJ7_copyOfRangeByte_39247 21 = .ok (.iload_n 1, 1) := by decide +kernel
theorem dJ7_copyOfRangeByte_39247_22 : decode cJ7_copyOfRangeByte_39247 22 = .ok (.isub, 1) := by decide +kernel
theorem dJ7_copyOfRangeByte_39247_23 : decode cJ7_copyOfRangeByte_39247 23 = .ok (.iload_n 3, 1) := by decide +kernel
theorem dJ7_copyOfRangeByte_39247_24 : decode cJ7_copyOfRangeByte_39247 24 = .ok (.invokestatic 304, 3) := by decide +kernel
theorem dJ7_copyOfRangeByte_39247_27 : decode cJ7_copyOfRangeByte_39247 27 = .ok (.invokestatic 150, 3) := by decide +kernel
theorem dJ7_copyOfRangeByte_39247_30 : decode cJ7_copyOfRangeByte_39247 30 = .ok (.aload 4, 2) := by decide +kernel
theorem dJ7_copyOfRangeByte_39247_32 : decode cJ7_copyOfRangeByte_39247 32 = .ok (.areturn, 1) := by decide +kernel
theorem dJ15_checkIndex_7cf53_0 : decode cJ15_checkIndex_7cf53 0 = .ok (.iload_n 0, 1) := by decide +kernel
theorem dJ15_checkIndex_7cf53_1 : decode cJ15_checkIndex_7cf53 1 = .ok (.iload_n 1, 1) := by decide +kernel
theorem dJ15_checkIndex_7cf53_2 : decode cJ15_checkIndex_7cf53 2 = .ok (.aconst_null, 1) := by decide +kernel
theorem dJ15_checkIndex_7cf53_3 : decode cJ15_checkIndex_7cf53 3 = .ok (.invokestatic 105, 3) := by decide +kernel
theorem dJ15_checkIndex_7cf53_6 : decode cJ15_checkIndex_7cf53 6 = .ok (.ireturn, 1) := by decide +kernel
theorem dJ8_newLength_cabcc_0 : decode cJ8_newLength_cabcc 0 = .ok (.iload_n 0, 1) := by decide +kernel
theorem dJ8_newLength_cabcc_1 : decode cJ8_newLength_cabcc 1 = .ok (.iload_n 1, 1) := by decide +kernel
theorem dJ8_newLength_cabcc_2 : decode cJ8_newLength_cabcc 2 = .ok (.iload_n 2, 1) := by decide +kernel
theorem dJ8_newLength_cabcc_3 : decode cJ8_newLength_cabcc 3 = .ok (.invokestatic 194, 3) := by decide +kernel
theorem dJ8_newLength_cabcc_6 : decode cJ8_newLength_cabcc 6 = .ok (.iadd, 1) := by decide +kernel
theorem dJ8_newLength_cabcc_7 : decode cJ8_newLength_cabcc 7 = .ok (.istore_n 3, 1) := by decide +kernel
theorem dJ8_newLength_cabcc_8 : decode cJ8_newLength_cabcc 8 = .ok (.iconst 0, 1) := by decide +kernel
theorem dJ8_newLength_cabcc_9 : decode cJ8_newLength_cabcc 9 = .ok (.iload_n 3, 1) := by decide +kernel
theorem dJ8_newLength_cabcc_10 : decode cJ8_newLength_cabcc 10 = .ok (.if_icmp .ge 11, 3) := by decide +kernel
theorem dJ8_newLength_cabcc_13 : decode cJ8_newLength_cabcc 13 = .ok (.iload_n 3, 1) := by decide +kernel
theorem dJ8_newLength_cabcc_14 : decode cJ8_newLength_cabcc 14 = .ok (.ldc 200, 2) := by decide +kernel
theorem dJ8_newLength_cabcc_16 : decode cJ8_newLength_cabcc 16 = .ok (.if_icmp .gt 5, 3) := by decide +kernel
theorem dJ8_newLength_cabcc_19 : decode cJ8_newLength_cabcc 19 = .ok (.iload_n 3, 1) := by decide +kernel
theorem dJ8_newLength_cabcc_20 : decode cJ8_newLength_cabcc 20 = .ok (.ireturn, 1) := by decide +kernel
theorem dJ8_newLength_cabcc_21 : decode cJ8_newLength_cabcc 21 = .ok (.iload_n 0, 1) := by decide +kernel
theorem dJ8_newLength_cabcc_22 : decode cJ8_newLength_cabcc 22 = .ok (.iload_n 1, 1) := by decide +kernel
theorem dJ8_newLength_cabcc_23 : decode cJ8_newLength_cabcc 23 = .ok (.invokestatic 201, 3) := by decide +kernel
theorem dJ8_newLength_cabcc_26 : decode cJ8_newLength_cabcc 26 = .ok (.ireturn, 1) := by decide +kernel
theorem dJ3_checkIndex_8e157_0 : decode cJ3_checkIndex_8e157 0 = .ok (.iload_n 0, 1) := by decide +kernel
theorem dJ3_checkIndex_8e157_1 : decode cJ3_checkIndex_8e157 1 = .ok (.ifCond .lt 8, 3) := by decide +kernel
theorem dJ3_checkIndex_8e157_4 : decode cJ3_checkIndex_8e157 4 = .ok (.iload_n 0, 1) := by decide +kernel
theorem dJ3_checkIndex_8e157_5 : decode cJ3_checkIndex_8e157 5 = .ok (.iload_n 1, 1) := by decide +kernel
theorem dJ3_checkIndex_8e157_6 : decode cJ3_checkIndex_8e157 6 = .ok (.if_icmp .lt 10, 3) := by decide +kernel
theorem dJ3_checkIndex_8e157_9 : decode cJ3_checkIndex_8e157 9 = .ok (.aload_n 2, 1) := by decide +kernel
theorem dJ3_checkIndex_8e157_10 : decode cJ3_checkIndex_8e157 10 = .ok (.iload_n 0, 1) := by decide +kernel
theorem dJ3_checkIndex_8e157_11 : decode cJ3_checkIndex_8e157 11 = .ok (.iload_n 1, 1) := by decide +kernel
theorem dJ3_checkIndex_8e157_12 : decode cJ3_checkIndex_8e157 12 = .ok (.invokestatic 95, 3) := by decide +kernel
theorem dJ3_checkIndex_8e157_15 : decode cJ3_checkIndex_8e157 15 = .ok (.athrow, 1) := by decide +kernel
theorem dJ3_checkIndex_8e157_16 : decode cJ3_checkIndex_8e157 16 = .ok (.iload_n 0, 1) := by decide +kernel
theorem dJ3_checkIndex_8e157_17 : decode cJ3_checkIndex_8e157 17 = .ok (.ireturn, 1) := by decide +kernel
end
section
/-! parts of a world, side by side; own work -/
abbrev Asn : Type := va_W → Prop
def star (P Q : Asn) : Asn := fun w => ∃ w1 w2 : va_W, w.Perm (w1 ++ w2) ∧ P w1 ∧ Q w2
def emp : Asn := fun w => w = []
def pt (a : Nat) (e : va_E) : Asn := fun w => w = [(a, e)]
def sepL : List Asn → Asn
  | [] => emp
  | P :: L => star P (sepL L)
theorem star_perm {P Q : Asn} {w w' : va_W} (h : w'.Perm w) (s : star P Q w) : star P Q w' := by
  obtain ⟨w1, w2, hp, h1, h2⟩ := s
  exact ⟨w1, w2, h.trans hp, h1, h2⟩
theorem sepL_perm {L : List Asn} {w w' : va_W} (h : w'.Perm w) (s : sepL L w) : sepL L w' := by
  cases L with
  | nil =>
    have : w = [] := s
    subst this
    exact List.perm_nil.mp h
  | cons P L => exact star_perm h s
/-- P lies among the parts; the rest is ws' -/
def Pick (ws : List Asn) (P : Asn) (ws' : List Asn) : Prop := ∀ w, sepL ws w → star P (sepL ws') w
theorem pick_0 {P : Asn} {L : List Asn} : Pick (P :: L) P L := fun _ h => h
theorem perm_swap3 {a b c : va_W} : (a ++ (b ++ c)).Perm (b ++ (a ++ c)) := by
  rw [← List.append_assoc, ← List.append_assoc]
  exact List.perm_append_comm.append_right c
theorem pick_s {P R : Asn} {L L' : List Asn} (h : Pick L P L') : Pick (R :: L) P (R :: L') := by
  rintro w ⟨w1, w2, hp, h1, h2⟩
  obtain ⟨u1, u2, hq, g1, g2⟩ := h w2 h2
  refine ⟨u1, w1 ++ u2, ?_, g1, ⟨w1, u2, List.Perm.refl _, h1, g2⟩⟩
  exact hp.trans ((hq.append_left w1).trans perm_swap3)
def Sel (ws pre fr : List Asn) : Prop := ∀ w, sepL ws w → star (sepL pre) (sepL fr) w
theorem sel_0 {ws : List Asn} : Sel ws [] ws := fun w h => ⟨[], w, List.Perm.refl _, rfl, h⟩
theorem sel_s {ws ws1 L fr : List Asn} {P : Asn} (h : Pick ws P ws1) (g : Sel ws1 L fr) : Sel ws (P :: L) fr := by
  intro w hw
  obtain ⟨w1, w2, hp, h1, h2⟩ := h w hw
  obtain ⟨u1, u2, hq, g1, g2⟩ := g w2 h2
  refine ⟨w1 ++ u1, u2, ?_, ⟨w1, u1, List.Perm.refl _, h1, g1⟩, g2⟩
  rw [List.append_assoc]
  exact hp.trans (hq.append_left w1)
theorem sel_refl {ws : List Asn} : Sel ws ws [] := fun w h => ⟨w, [], by rw [List.append_nil], h, rfl⟩
theorem sepL_join : ∀ {A B : List Asn} {w : va_W}, star (sepL A) (sepL B) w → sepL (A ++ B) w
  | [], B, w, h => by
    obtain ⟨w1, w2, hp, h1, h2⟩ := h
    have : w1 = [] := h1
    subst this
    exact sepL_perm hp h2
  | P :: A, B, w, h => by
    obtain ⟨w1, w2, hp, ⟨u1, u2, hq, g1, g2⟩, h2⟩ := h
    refine ⟨u1, u2 ++ w2, ?_, g1, sepL_join ⟨u2, w2, List.Perm.refl _, g2, h2⟩⟩
    rw [← List.append_assoc]
    exact hp.trans (hq.append_right w2)
theorem sepL_split : ∀ {A B : List Asn} {w : va_W}, sepL (A ++ B) w → star (sepL A) (sepL B) w
  | [], B, w, h => ⟨[], w, List.Perm.refl _, rfl, h⟩
  | P :: A, B, w, h => by
    obtain ⟨w1, w2, hp, h1, h2⟩ := h
    obtain ⟨u1, u2, hq, g1, g2⟩ := sepL_split h2
    refine ⟨w1 ++ u1, u2, ?_, ⟨w1, u1, List.Perm.refl _, h1, g1⟩, g2⟩
    rw [List.append_assoc]
    exact hp.trans (hq.append_left w1)
theorem star_comm {P Q : Asn} {w : va_W} (h : star P Q w) : star Q P w := by
  obtain ⟨w1, w2, hp, h1, h2⟩ := h
  exact ⟨w2, w1, hp.trans List.perm_append_comm, h2, h1⟩
/-- a frame kept as one part -/
theorem sepL_pack {A fr : List Asn} {w : va_W} (h : star (sepL A) (sepL fr) w) : sepL (A ++ [sepL fr]) w := by
  refine sepL_join ?_
  obtain ⟨w1, w2, hp, h1, h2⟩ := h
  exact ⟨w1, w2, hp, h1, ⟨w2, [], by rw [List.append_nil], h2, rfl⟩⟩
theorem sepL_unpack {A fr : List Asn} {w : va_W} (h : sepL (A ++ [sepL fr]) w) : sepL (A ++ fr) w := by
  obtain ⟨w1, w2, hp, h1, ⟨u1, u2, hq, g1, g2⟩⟩ := sepL_split h
  have : u2 = [] := g2
  subst this
  rw [List.append_nil] at hq
  exact sepL_join ⟨w1, w2, hp, h1, sepL_perm hq g1⟩
/-- a part opened -/
theorem sepL_open {ws ws1 qs : List Asn} {P : Asn} {w : va_W} (h : Pick ws P ws1) (hP : ∀ u, P u → sepL qs u) (hw : sepL ws w) : sepL (qs ++ ws1) w := by
  obtain ⟨w1, w2, hp, h1, h2⟩ := h w hw
  exact sepL_join ⟨w1, w2, hp, hP w1 h1, h2⟩
theorem pick_mem {ws ws1 : List Asn} {a : Nat} {e : va_E} {w : va_W} (h : Pick ws (pt a e) ws1) (hw : sepL ws w) : (a, e) ∈ w := by
  obtain ⟨w1, w2, hp, h1, h2⟩ := h w hw
  have : w1 = [(a, e)] := h1
  subst this
  exact hp.symm.subset (by simp)
/-- a thing of the world, by its place, and what stays when it is written -/
theorem pick_at {ws ws1 : List Asn} {a : Nat} {e : va_E} {w : va_W} (h : Pick ws (pt a e) ws1) (hw : sepL ws w) : ∃ q : Nat, w[q]? = some (a, e) ∧ ∀ e', sepL (pt a e' :: ws1) (w.set q (a, e')) := by
  obtain ⟨w1, w2, hp, h1, h2⟩ := h w hw
  have : w1 = [(a, e)] := h1
  subst this
  obtain ⟨l1, l2, rfl⟩ := List.append_of_mem (hp.symm.subset (show (a, e) ∈ [(a, e)] ++ w2 by simp))
  refine ⟨l1.length, by simp, fun e' => ?_⟩
  have h3 : (l1 ++ (a, e) :: l2).Perm ((a, e) :: (l1 ++ l2)) := List.perm_middle
  have h4 : (l1 ++ l2).Perm w2 := (h3.symm.trans hp).cons_inv
  refine ⟨[(a, e')], w2, ?_, rfl, h2⟩
  have h5 : (l1 ++ (a, e) :: l2).set l1.length (a, e') = l1 ++ (a, e') :: l2 := by simp
  rw [h5]
  exact List.perm_middle.trans (h4.cons _)
theorem sepL_new {ws : List Asn} {a : Nat} {e : va_E} {w : va_W} (hw : sepL ws w) : sepL (pt a e :: ws) (w ++ [(a, e)]) :=
  ⟨[(a, e)], w, List.perm_append_comm, rfl, hw⟩
/-- a smaller world -/
theorem va_P.perm {D : va_G} {cl : List vw_C} {w w' : va_W} {H : Heap} (h : va_P D cl w H) (hs : ∀ q, q ∈ w' → q ∈ w) : va_P D cl w' H := by
  intro k q hk
  obtain ⟨i, hi⟩ := List.getElem?_of_mem (hs q (List.mem_of_getElem? hk))
  exact h i q hi
def va_Dm (A : Nat → Prop) (w : va_W) : Prop := w.Pairwise (fun p q => p.1 ≠ q.1) ∧ ∀ q ∈ w, A q.1
theorem va_Dm.D {A : Nat → Prop} {w : va_W} (h : va_Dm A w) : va_D A w := by
  refine ⟨fun i j p q hi hj hpq => ?_, fun k q hk => h.2 q (List.mem_of_getElem? hk)⟩
  obtain ⟨hi', e1⟩ := List.getElem?_eq_some_iff.mp hi
  obtain ⟨hj', e2⟩ := List.getElem?_eq_some_iff.mp hj
  have h1 := List.pairwise_iff_getElem.mp h.1
  rcases Nat.lt_trichotomy i j with hl | hl | hl
  · exact absurd (by rw [e1, e2]; exact hpq) (h1 i j hi' hj' hl)
  · exact hl
  · exact absurd (by rw [e1, e2]; exact hpq.symm) (h1 j i hj' hi' hl)
theorem va_Dm.of {A : Nat → Prop} {w : va_W} (h : va_D A w) : va_Dm A w := by
  refine ⟨List.pairwise_iff_getElem.mpr fun i j hi hj hl e => ?_, fun q hq => ?_⟩
  · exact absurd (h.1 i j _ _ (List.getElem?_eq_getElem hi) (List.getElem?_eq_getElem hj) e) (by omega)
  · obtain ⟨k, hk⟩ := List.getElem?_of_mem hq
    exact h.2 k q hk
theorem va_Dm.perm {A : Nat → Prop} {w w' : va_W} (h : va_Dm A w) (hp : w.Perm w') : va_Dm A w' := ⟨hp.pairwise h.1 (fun e => Ne.symm e), fun q hq => h.2 q (hp.symm.subset hq)⟩
theorem va_Dm.left {A : Nat → Prop} {w1 w2 : va_W} (h : va_Dm A (w1 ++ w2)) : va_Dm A w1 := ⟨(List.pairwise_append.mp h.1).1, fun q hq => h.2 q (List.mem_append_left _ hq)⟩
theorem star_D {A : Nat → Prop} {D : va_G} {cl : List vw_C} {P Q : Asn} {w : va_W} {H : Heap} (h : star P Q w) (hP : va_P D cl w H) (hD : va_D A w) : ∃ w1, va_P D cl w1 H ∧ va_D A w1 ∧ P w1 := by
  obtain ⟨w1, w2, hp, h1, h2⟩ := h
  exact ⟨w1, hP.perm (fun q hq => hp.symm.subset (List.mem_append_left _ hq)), ((va_Dm.of hD).perm hp).left.D, h1⟩
end
section

/-! the judgement of a walk with parts: own work over the kit's rows -/
def clsL : List vw_C := [(RX0, TX0, 2), (RX2, TX2, 4), (RX3, TX3, 4), (RX4, TX4, 5), (RX5, TX5, 8), (RX6, TX6, 3), (RX7, TX7, 6), (RX8, TX8, 36), (RJx4a65c, TJx4a65c, 3)]
def tysL (ca : Nat → ClassId) : List (ClassId × FieldType) := [(ca 0, .byte), (ca 1, .int), (ca 2, .long), (ca 3, .boolean), (ca 4, .object "java/lang/Object")]
/-- launch, the law's start, classes, array classes -/
abbrev GT : Type := Launch × State × va_G × (Nat → ClassId)
def A9 (s0 : State) : Nat → Prop := fun q => s0.heap.size ≤ q
def GLB (g : GT) : Prop := g.1.stackTraces = false ∧ (∀ w ∈ lw_tbl, ∀ a : Array Value, w.before a g.2.1 = true) ∧ va_K g.2.2.1 clsL (tysL g.2.2.2) g.2.1
def Old (s0 : State) (H : Heap) : Prop := s0.heap.size ≤ H.size ∧ ∀ q : Nat, q < s0.heap.size → H[q]? = s0.heap[q]?
def Wld (s0 : State) (D : va_G) (ws : List Asn) (H : Heap) : Prop := ∃ w, va_P D clsL w H ∧ va_D (A9 s0) w ∧ sepL ws w
def slotSum (H : Heap) : Nat := H.foldl (fun n c => n + c.slots.size) 0
abbrev XT : Type := GT × Program × Env × Room × State × MethodId × Array Value × List Frame × Method × Code × (State → Prop)
def lHas (ls : Array Slot) (nL : Nat) (lv : List (Option Value)) : Prop := ls.size = nL ∧ lv_wf ls ∧ ∀ (i : Nat) (v : Value), lv[i]? = some (some v) → ls[i]? = some (.val v)
/-- what stands at every point of a body: own class, bytes, locals, depth, room -/
def JE (X : XT) (own : String) (cc : ByteArray) (nL d mc ms : Nat) : Prop := match X with
  | ((l, s0, D, ca), p, _, R, s, m, _, _, meth, c, _) => p.tables.exec = Jvm.exec ∧ c.code = cc ∧ c.maxLocals = nL ∧ s.vm.findClass own = some m.cls ∧ s0.WarmedH s.vm ∧ Old s0 s.heap ∧ meth.locks = false ∧ GLB (l, s0, D, ca) ∧ d ≤ R.frames ∧ 46 * d ≤ R.locals ∧ mc ≤ R.cells ∧ ms ≤ R.slots
def J (X : XT) (nL : Nat) (ws : List Asn) (k n pc : Nat) (lv : List (Option Value)) (st : List Value) : Prop := match X with
  | ((l, s0, D, _), p, e, R, s, m, args, below, meth, c, Q) => ∀ (H : Heap) (locs : List Loc) (ls : Array Slot), va_S (A9 s0) s.heap H locs → Wld s0 D ws H → lHas ls nL lv → W p l e R s m args below meth c H locs k n Q (F0 m pc ls st)
/-- the same, with an exception of class E thrown at pc -/
def JX (X : XT) (nL : Nat) (ws : List Asn) (k n pc : Nat) (lv : List (Option Value)) (E : String) : Prop := match X with
  | ((l, s0, D, _), p, e, R, s, m, args, below, meth, c, Q) => ∀ (H : Heap) (locs : List Loc) (ls : Array Slot) (q : Addr) (ce : Cell) (rest : List Value), va_S (A9 s0) s.heap H locs → Wld s0 D ws H → lHas ls nL lv → H[q]? = some ce → ce.vm = .none → s.vm.findClass E = some ce.cls → vx_W p l e R s m args below meth c H locs k n Q (F0 m pc ls rest) q
abbrev PoT : Type := Option Value → Nat → Nat → List Asn → Prop
abbrev PxT : Type := String → Nat → Nat → List Asn → Prop
def noX : PxT := fun _ _ _ _ => False
def PcO (g : GT) (av : List Value) (pre : List Asn) (F : Asn) : Array Value → State → Prop := va_Pc av (fun U => g.2.1.WarmedH U.vm ∧ Old g.2.1 U.heap ∧ Wld g.2.1 g.2.2.1 (pre ++ [F]) U.heap)
def QcO (g : GT) (po : PoT) (F : Asn) : Array Value → State → Outcome → State → Prop := fun _ st oc t => (∃ (r : Option Value) (dc ds : Nat) (ws' : List Asn), oc = .returned r ∧ po r dc ds ws' ∧ Wld g.2.1 g.2.2.1 (ws' ++ [F]) t.heap ∧ t.heap.size ≤ st.heap.size + dc ∧ slotSum t.heap ≤ slotSum st.heap + ds) ∧ va_F (A9 g.2.1) st t
def XcO (g : GT) (px : PxT) (F : Asn) : String → State → State → Prop := fun E st t => (∃ (dc ds : Nat) (ws' : List Asn), px E dc ds ws' ∧ Wld g.2.1 g.2.2.1 (ws' ++ [F]) t.heap ∧ t.heap.size ≤ st.heap.size + dc ∧ slotSum t.heap ≤ slotSum st.heap + ds) ∧ va_F (A9 g.2.1) st t
/-- a method: its name, bytes, locals, what it returns -/
abbrev MD : Type := MethodName × ByteArray × Nat × Option FieldType
def rmD (d mc ms : Nat) : Room := { frames := d, cells := mc, slots := ms, locals := 46 * d }
/-- a contract, at depth d, with mc cells of ms slots at most -/
def Ctr (g : GT) (M : MD) (d mc ms : Nat) (av : List Value) (pre : List Asn) (po : PoT) (px : PxT) : Prop :=
  ∀ F : Asn, vx_Met g.1 M.1 [.code M.1 M.2.1 M.2.2.1 M.2.2.2] (rmD d mc ms) (PcO g av pre F) (QcO g po F) (XcO g px F) mc ms (A9 g.2.1)
/-- what a body owes at its end -/
def JB (X : XT) (ret : Option FieldType) (po : PoT) (px : PxT) (F : Asn) (mc ms : Nat) : Prop := match X with
  | ((l, s0, D, ca), _, _, _, s, _, args, below, meth, _, Q) => meth.sig.returnType = ret ∧ Q = vx_MQ below (QcO (l, s0, D, ca) po F) (XcO (l, s0, D, ca) px F) args s mc ms (A9 s0)
theorem slotSum_eq (H : Heap) : slotSum H = (H.toList.map (·.slots.size)).sum := by
  unfold slotSum
  rw [← Array.foldl_toList]
  have key : ∀ (l : List Cell) (n : Nat), l.foldl (fun n c => n + c.slots.size) n = n + (l.map (·.slots.size)).sum := by
    intro l
    induction l with
    | nil => intro n; simp
    | cons a l ih => intro n; simp only [List.foldl_cons, List.map_cons, List.sum_cons]; rw [ih]; omega
  rw [key]; omega
section KB
variable {p : Program} {l : Launch} {e : Env} {R : Room} {s : State} {m : MethodId} {args : Array Value} {below : List Frame} {meth : Method} {c : Code} {H : Heap} {locs : List Loc} {k n : Nat} {Q : State → Prop} {g : JFrame}
theorem stand_sum {T : State} (X : Stand p l e R s m args below meth c T locs k n) : slotSum T.heap = slotSum s.heap + ((T.heap.toList.drop s.heap.size).map (·.slots.size)).sum := by
  have h0 : s.slotsTrue = true := by
    have h := X.room
    simp only [State.hasRoom, Bool.and_eq_true] at h
    exact h.2
  have h1 := X.book
  have h4 : T.slotsUsed = s.slotsUsed + _ := X.same.2.2.2.1
  unfold State.slotsTrue at h0 h1
  rw [beq_iff_eq] at h0 h1
  unfold slotSum
  rw [← h0, ← h1]
  exact h4
theorem W.know (h : H.size ≤ s.heap.size + k → slotSum H ≤ slotSum s.heap + n → W p l e R s m args below meth c H locs k n Q g) : W p l e R s m args below meth c H locs k n Q g := by
  intro T hT X
  refine h (by rw [← hT]; exact X.heapSize) ?_ T hT X
  rw [← hT, stand_sum X]
  exact Nat.add_le_add_left X.same.2.2.2.2.1 _
theorem stand_tight {T : State} {k' n' : Nat} (X : Stand p l e R s m args below meth c T locs k n) (h1 : T.heap.size ≤ s.heap.size + k') (h2 : slotSum T.heap ≤ slotSum s.heap + n') : Stand p l e R s m args below meth c T locs k' n' := by
  have h3 := stand_sum X
  have h4 := X.same
  refine { X with same := ⟨h4.1, h4.2.1, h1, h4.2.2.2.1, ?_, h4.2.2.2.2.2⟩ }
  show ((T.heap.toList.drop s.heap.size).map (·.slots.size)).sum ≤ n'
  omega
theorem W.tight {k' n' : Nat} (h1 : H.size ≤ s.heap.size + k') (h2 : slotSum H ≤ slotSum s.heap + n') (h : W p l e R s m args below meth c H locs k' n' Q g) : W p l e R s m args below meth c H locs k n Q g := by
  intro T hT X
  exact h T hT (stand_tight X (by rw [hT]; exact h1) (by rw [hT]; exact h2))
theorem vx_W.know {q : Addr} (h : H.size ≤ s.heap.size + k → slotSum H ≤ slotSum s.heap + n → vx_W p l e R s m args below meth c H locs k n Q g q) : vx_W p l e R s m args below meth c H locs k n Q g q := by
  intro T hT X
  refine h (by rw [← hT]; exact X.heapSize) ?_ T hT X
  rw [← hT, stand_sum X]
  exact Nat.add_le_add_left X.same.2.2.2.2.1 _
theorem vx_W.tight {q : Addr} {k' n' : Nat} (h1 : H.size ≤ s.heap.size + k') (h2 : slotSum H ≤ slotSum s.heap + n') (h : vx_W p l e R s m args below meth c H locs k' n' Q g q) : vx_W p l e R s m args below meth c H locs k n Q g q := by
  intro T hT X
  exact h T hT (stand_tight X (by rw [hT]; exact h1) (by rw [hT]; exact h2))
end KB
/-! locals by their places -/
def lA (lv : List (Option Value)) : List (Nat × Value) := (List.range lv.length).filterMap (fun i => match lv[i]? with | some (some v) => some (i, v) | _ => none)
theorem lA_mem {lv : List (Option Value)} {i : Nat} {v : Value} : (i, v) ∈ lA lv ↔ lv[i]? = some (some v) := by
  unfold lA
  rw [List.mem_filterMap]
  constructor
  · rintro ⟨j, hj, h⟩
    split at h
    · rename_i w hw
      cases h
      exact hw
    · cases h
  · intro h
    refine ⟨i, ?_, by rw [h]⟩
    rw [List.mem_range]
    exact (List.getElem?_eq_some_iff.mp h).1
theorem lHas.A {ls : Array Slot} {nL : Nat} {lv : List (Option Value)} (h : lHas ls nL lv) : lv_has ls nL (lA lv) := ⟨h.1, h.2.1, fun q hq => h.2.2 q.1 q.2 (lA_mem.mp hq)⟩
theorem lHas.of {ls : Array Slot} {nL : Nat} {lv : List (Option Value)} {l : List (Nat × Value)} (h : lv_has ls nL l) (hs : ∀ (i : Nat) (v : Value), lv[i]? = some (some v) → (i, v) ∈ l) : lHas ls nL lv := ⟨h.1, h.2.1, fun i v hi => h.2.2 (i, v) (hs i v hi)⟩
theorem lHas.at {ls : Array Slot} {nL : Nat} {lv : List (Option Value)} (h : lHas ls nL lv) {i : Nat} {v : Value} (hi : lv[i]? = some (some v)) : ls[i]? = some (.val v) := h.2.2 i v hi
/-- fewer locals are known -/
theorem lHas.less {ls : Array Slot} {nL : Nat} {lv lv' : List (Option Value)} (h : lHas ls nL lv) (hs : ∀ (i : Nat) (v : Value), lv'[i]? = some (some v) → lv[i]? = some (some v)) : lHas ls nL lv' := ⟨h.1, h.2.1, fun i v hi => h.2.2 i v (hs i v hi)⟩
/-- the slot ahead of i holds nothing of two slots -/
def lok (lv : List (Option Value)) (i : Nat) : Bool := match i with
  | 0 => true
  | j + 1 => match lv[j]? with
    | some (some (.long _)) => false
    | some (some (.double _)) => false
    | _ => true
theorem lok_spec {lv : List (Option Value)} {j : Nat} {v : Value} (h : lok lv (j + 1) = true) (hv : lv[j]? = some (some v)) : v.category = 1 := by
  unfold lok at h
  simp only [hv] at h
  cases v <;> first | rfl | (simp at h)
theorem lset_has1 {ls : Array Slot} {nL : Nat} {lv : List (Option Value)} {i : Nat} {v : Value} (hk : lok lv i = true) (h : lv_has ls nL ((i, v) :: (lA lv).filter (fun q => !(q.1 == i) && !(q.1 + 1 == i && q.2.category == 2)))) : lHas ls nL (lv.set i (some v)) := by
  refine lHas.of h fun j w hj => ?_
  by_cases hij : i = j
  · subst hij
    have hl : i < lv.length := by
      have := (List.getElem?_eq_some_iff.mp hj).1
      rwa [List.length_set] at this
    rw [List.getElem?_set_self hl] at hj
    cases hj
    exact List.mem_cons_self
  · rw [List.getElem?_set_ne hij] at hj
    refine List.mem_cons_of_mem _ (List.mem_filter.mpr ⟨lA_mem.mpr hj, ?_⟩)
    have h1 : (j == i) = false := by simp; omega
    have h2 : (j + 1 == i && w.category == 2) = false := by
      by_cases h3 : j + 1 = i
      · subst h3
        rw [lok_spec hk hj]
        simp
      · simp [h3]
    simp only [h1, h2]
    rfl
theorem lset_has2 {ls : Array Slot} {nL : Nat} {lv : List (Option Value)} {i : Nat} {v : Value} (hk : lok lv i = true) (h : lv_has ls nL ((i, v) :: (lA lv).filter (fun q => !(q.1 == i) && (!(q.1 == i + 1) && !(q.1 + 1 == i && q.2.category == 2))))) : lHas ls nL ((lv.set i (some v)).set (i + 1) none) := by
  refine lHas.of h fun j w hj => ?_
  by_cases hij1 : i + 1 = j
  · subst hij1
    have hl := (List.getElem?_eq_some_iff.mp hj).1
    rw [List.length_set, List.length_set] at hl
    rw [List.getElem?_set_self (by rw [List.length_set]; exact hl)] at hj
    cases hj
  · rw [List.getElem?_set_ne hij1] at hj
    by_cases hij : i = j
    · subst hij
      have hl : i < lv.length := by
        have := (List.getElem?_eq_some_iff.mp hj).1
        rwa [List.length_set] at this
      rw [List.getElem?_set_self hl] at hj
      cases hj
      exact List.mem_cons_self
    · rw [List.getElem?_set_ne hij] at hj
      refine List.mem_cons_of_mem _ (List.mem_filter.mpr ⟨lA_mem.mpr hj, ?_⟩)
      have h1 : (j == i) = false := by simp; omega
      have h4 : (j == i + 1) = false := by simp; omega
      have h2 : (j + 1 == i && w.category == 2) = false := by
        by_cases h3 : j + 1 = i
        · subst h3
          rw [lok_spec hk hj]
          simp
        · simp [h3]
      simp only [h1, h2, h4]
      rfl
theorem Old.S {s0 s : State} {H : Heap} {locs : List Loc} (h : Old s0 s.heap) (hS : va_S (A9 s0) s.heap H locs) : Old s0 H := ⟨Nat.le_trans h.1 hS.1, fun q hq => (hS.2.1 q (Nat.lt_of_lt_of_le hq h.1) (by unfold A9; omega)).trans (h.2 q hq)⟩
theorem Old.A {s0 s : State} (h : Old s0 s.heap) : ∀ q : Nat, s.heap.size ≤ q → A9 s0 q := fun q hq => Nat.le_trans h.1 hq
theorem Wld.sel {s0 : State} {D : va_G} {ws pre fr : List Asn} {H : Heap} (h : Wld s0 D ws H) (hs : Sel ws pre fr) : Wld s0 D pre H := by
  obtain ⟨w, hP, hD, hw⟩ := h
  obtain ⟨w1, h1, h2, h3⟩ := star_D (hs w hw) hP hD
  exact ⟨w1, h1, h2, h3⟩
theorem Wld.mono {s0 : State} {D : va_G} {ws ws' : List Asn} {H : Heap} (h : Wld s0 D ws H) (hs : ∀ w, sepL ws w → sepL ws' w) : Wld s0 D ws' H := by
  obtain ⟨w, hP, hD, hw⟩ := h
  exact ⟨w, hP, hD, hs w hw⟩
section JR
variable {X : XT} {own : String} {cc : ByteArray} {nL d mc ms : Nat} {ws : List Asn} {k n pc : Nat} {lv : List (Option Value)} {st : List Value}
theorem j_iadd (E : JE X own cc nL d mc ms) {x y : Int32} (pc' : Nat) (hd : decode cc pc = .ok (.iadd, 1)) (hp : pc + 1 = pc') (kk : J X nL ws k n pc' lv (.int (x + y) :: st)) : J X nL ws k n pc lv (.int y :: .int x :: st) := by
  obtain ⟨⟨l, s0, D, ca⟩, p, e, R, s, m, args, below, meth, c, Q⟩ := X
  obtain ⟨hx, hb, hml, hown, hwm, hold, hlocks, hG, hfr, hlo, hrc, hrs⟩ := E
  subst hp
  intro H locs ls hS hw hl
  exact lv_iadd hx hb hd (kk H locs ls hS hw hl)
theorem j_isub (E : JE X own cc nL d mc ms) {x y : Int32} (pc' : Nat) (hd : decode cc pc = .ok (.isub, 1)) (hp : pc + 1 = pc') (kk : J X nL ws k n pc' lv (.int (x - y) :: st)) : J X nL ws k n pc lv (.int y :: .int x :: st) := by
  obtain ⟨⟨l, s0, D, ca⟩, p, e, R, s, m, args, below, meth, c, Q⟩ := X
  obtain ⟨hx, hb, hml, hown, hwm, hold, hlocks, hG, hfr, hlo, hrc, hrs⟩ := E
  subst hp
  intro H locs ls hS hw hl
  exact lv_isub hx hb hd (kk H locs ls hS hw hl)
theorem j_imul (E : JE X own cc nL d mc ms) {x y : Int32} (pc' : Nat) (hd : decode cc pc = .ok (.imul, 1)) (hp : pc + 1 = pc') (kk : J X nL ws k n pc' lv (.int (x * y) :: st)) : J X nL ws k n pc lv (.int y :: .int x :: st) := by
  obtain ⟨⟨l, s0, D, ca⟩, p, e, R, s, m, args, below, meth, c, Q⟩ := X
  obtain ⟨hx, hb, hml, hown, hwm, hold, hlocks, hG, hfr, hlo, hrc, hrs⟩ := E
  subst hp
  intro H locs ls hS hw hl
  exact lv_imul hx hb hd (kk H locs ls hS hw hl)
theorem j_iand (E : JE X own cc nL d mc ms) {x y : Int32} (pc' : Nat) (hd : decode cc pc = .ok (.iand, 1)) (hp : pc + 1 = pc') (kk : J X nL ws k n pc' lv (.int (x &&& y) :: st)) : J X nL ws k n pc lv (.int y :: .int x :: st) := by
  obtain ⟨⟨l, s0, D, ca⟩, p, e, R, s, m, args, below, meth, c, Q⟩ := X
  obtain ⟨hx, hb, hml, hown, hwm, hold, hlocks, hG, hfr, hlo, hrc, hrs⟩ := E
  subst hp
  intro H locs ls hS hw hl
  exact lv_iand hx hb hd (kk H locs ls hS hw hl)
theorem j_ior (E : JE X own cc nL d mc ms) {x y : Int32} (pc' : Nat) (hd : decode cc pc = .ok (.ior, 1)) (hp : pc + 1 = pc') (kk : J X nL ws k n pc' lv (.int (x ||| y) :: st)) : J X nL ws k n pc lv (.int y :: .int x :: st) := by
  obtain ⟨⟨l, s0, D, ca⟩, p, e, R, s, m, args, below, meth, c, Q⟩ := X
  obtain ⟨hx, hb, hml, hown, hwm, hold, hlocks, hG, hfr, hlo, hrc, hrs⟩ := E
  subst hp
  intro H locs ls hS hw hl
  exact lv_ior hx hb hd (kk H locs ls hS hw hl)
theorem j_ixor (E : JE X own cc nL d mc ms) {x y : Int32} (pc' : Nat) (hd : decode cc pc = .ok (.ixor, 1)) (hp : pc + 1 = pc') (kk : J X nL ws k n pc' lv (.int (x ^^^ y) :: st)) : J X nL ws k n pc lv (.int y :: .int x :: st) := by
  obtain ⟨⟨l, s0, D, ca⟩, p, e, R, s, m, args, below, meth, c, Q⟩ := X
  obtain ⟨hx, hb, hml, hown, hwm, hold, hlocks, hG, hfr, hlo, hrc, hrs⟩ := E
  subst hp
  intro H locs ls hS hw hl
  exact lv_ixor hx hb hd (kk H locs ls hS hw hl)
theorem j_ishl (E : JE X own cc nL d mc ms) {x y : Int32} (pc' : Nat) (hd : decode cc pc = .ok (.ishl, 1)) (hp : pc + 1 = pc') (kk : J X nL ws k n pc' lv (.int (x <<< (y &&& 31)) :: st)) : J X nL ws k n pc lv (.int y :: .int x :: st) := by
  obtain ⟨⟨l, s0, D, ca⟩, p, e, R, s, m, args, below, meth, c, Q⟩ := X
  obtain ⟨hx, hb, hml, hown, hwm, hold, hlocks, hG, hfr, hlo, hrc, hrs⟩ := E
  subst hp
  intro H locs ls hS hw hl
  exact lv_ishl hx hb hd (kk H locs ls hS hw hl)
theorem j_ishr (E : JE X own cc nL d mc ms) {x y : Int32} (pc' : Nat) (hd : decode cc pc = .ok (.ishr, 1)) (hp : pc + 1 = pc') (kk : J X nL ws k n pc' lv (.int (x >>> (y &&& 31)) :: st)) : J X nL ws k n pc lv (.int y :: .int x :: st) := by
  obtain ⟨⟨l, s0, D, ca⟩, p, e, R, s, m, args, below, meth, c, Q⟩ := X
  obtain ⟨hx, hb, hml, hown, hwm, hold, hlocks, hG, hfr, hlo, hrc, hrs⟩ := E
  subst hp
  intro H locs ls hS hw hl
  exact lv_ishr hx hb hd (kk H locs ls hS hw hl)
theorem j_idiv (E : JE X own cc nL d mc ms) {x y : Int32} (pc' : Nat) (hd : decode cc pc = .ok (.idiv, 1)) (hne : ¬ y = 0) (hp : pc + 1 = pc') (kk : J X nL ws k n pc' lv (.int (x / y) :: st)) : J X nL ws k n pc lv (.int y :: .int x :: st) := by
  obtain ⟨⟨l, s0, D, ca⟩, p, e, R, s, m, args, below, meth, c, Q⟩ := X
  obtain ⟨hx, hb, hml, hown, hwm, hold, hlocks, hG, hfr, hlo, hrc, hrs⟩ := E
  subst hp
  intro H locs ls hS hw hl
  exact lv_idiv hx hb hd hne (kk H locs ls hS hw hl)
theorem j_irem (E : JE X own cc nL d mc ms) {x y : Int32} (pc' : Nat) (hd : decode cc pc = .ok (.irem, 1)) (hne : ¬ y = 0) (hp : pc + 1 = pc') (kk : J X nL ws k n pc' lv (.int (x - x / y * y) :: st)) : J X nL ws k n pc lv (.int y :: .int x :: st) := by
  obtain ⟨⟨l, s0, D, ca⟩, p, e, R, s, m, args, below, meth, c, Q⟩ := X
  obtain ⟨hx, hb, hml, hown, hwm, hold, hlocks, hG, hfr, hlo, hrc, hrs⟩ := E
  subst hp
  intro H locs ls hS hw hl
  exact lv_irem hx hb hd hne (kk H locs ls hS hw hl)
theorem j_ladd (E : JE X own cc nL d mc ms) {x y : Int64} (pc' : Nat) (hd : decode cc pc = .ok (.ladd, 1)) (hp : pc + 1 = pc') (kk : J X nL ws k n pc' lv (.long (x + y) :: st)) : J X nL ws k n pc lv (.long y :: .long x :: st) := by
  obtain ⟨⟨l, s0, D, ca⟩, p, e, R, s, m, args, below, meth, c, Q⟩ := X
  obtain ⟨hx, hb, hml, hown, hwm, hold, hlocks, hG, hfr, hlo, hrc, hrs⟩ := E
  subst hp
  intro H locs ls hS hw hl
  exact lv_ladd hx hb hd (kk H locs ls hS hw hl)
theorem j_lsub (E : JE X own cc nL d mc ms) {x y : Int64} (pc' : Nat) (hd : decode cc pc = .ok (.lsub, 1)) (hp : pc + 1 = pc') (kk : J X nL ws k n pc' lv (.long (x - y) :: st)) : J X nL ws k n pc lv (.long y :: .long x :: st) := by
  obtain ⟨⟨l, s0, D, ca⟩, p, e, R, s, m, args, below, meth, c, Q⟩ := X
  obtain ⟨hx, hb, hml, hown, hwm, hold, hlocks, hG, hfr, hlo, hrc, hrs⟩ := E
  subst hp
  intro H locs ls hS hw hl
  exact lv_lsub hx hb hd (kk H locs ls hS hw hl)
theorem j_lmul (E : JE X own cc nL d mc ms) {x y : Int64} (pc' : Nat) (hd : decode cc pc = .ok (.lmul, 1)) (hp : pc + 1 = pc') (kk : J X nL ws k n pc' lv (.long (x * y) :: st)) : J X nL ws k n pc lv (.long y :: .long x :: st) := by
  obtain ⟨⟨l, s0, D, ca⟩, p, e, R, s, m, args, below, meth, c, Q⟩ := X
  obtain ⟨hx, hb, hml, hown, hwm, hold, hlocks, hG, hfr, hlo, hrc, hrs⟩ := E
  subst hp
  intro H locs ls hS hw hl
  exact lv_lmul hx hb hd (kk H locs ls hS hw hl)
theorem j_land (E : JE X own cc nL d mc ms) {x y : Int64} (pc' : Nat) (hd : decode cc pc = .ok (.land, 1)) (hp : pc + 1 = pc') (kk : J X nL ws k n pc' lv (.long (x &&& y) :: st)) : J X nL ws k n pc lv (.long y :: .long x :: st) := by
  obtain ⟨⟨l, s0, D, ca⟩, p, e, R, s, m, args, below, meth, c, Q⟩ := X
  obtain ⟨hx, hb, hml, hown, hwm, hold, hlocks, hG, hfr, hlo, hrc, hrs⟩ := E
  subst hp
  intro H locs ls hS hw hl
  exact lv_land hx hb hd (kk H locs ls hS hw hl)
theorem j_lor (E : JE X own cc nL d mc ms) {x y : Int64} (pc' : Nat) (hd : decode cc pc = .ok (.lor, 1)) (hp : pc + 1 = pc') (kk : J X nL ws k n pc' lv (.long (x ||| y) :: st)) : J X nL ws k n pc lv (.long y :: .long x :: st) := by
  obtain ⟨⟨l, s0, D, ca⟩, p, e, R, s, m, args, below, meth, c, Q⟩ := X
  obtain ⟨hx, hb, hml, hown, hwm, hold, hlocks, hG, hfr, hlo, hrc, hrs⟩ := E
  subst hp
  intro H locs ls hS hw hl
  exact lv_lor hx hb hd (kk H locs ls hS hw hl)
theorem j_lxor (E : JE X own cc nL d mc ms) {x y : Int64} (pc' : Nat) (hd : decode cc pc = .ok (.lxor, 1)) (hp : pc + 1 = pc') (kk : J X nL ws k n pc' lv (.long (x ^^^ y) :: st)) : J X nL ws k n pc lv (.long y :: .long x :: st) := by
  obtain ⟨⟨l, s0, D, ca⟩, p, e, R, s, m, args, below, meth, c, Q⟩ := X
  obtain ⟨hx, hb, hml, hown, hwm, hold, hlocks, hG, hfr, hlo, hrc, hrs⟩ := E
  subst hp
  intro H locs ls hS hw hl
  exact lv_lxor hx hb hd (kk H locs ls hS hw hl)
theorem j_ineg (E : JE X own cc nL d mc ms) {x : Int32} (pc' : Nat) (hd : decode cc pc = .ok (.ineg, 1)) (hp : pc + 1 = pc') (kk : J X nL ws k n pc' lv (.int (-x) :: st)) : J X nL ws k n pc lv (.int x :: st) := by
  obtain ⟨⟨l, s0, D, ca⟩, p, e, R, s, m, args, below, meth, c, Q⟩ := X
  obtain ⟨hx, hb, hml, hown, hwm, hold, hlocks, hG, hfr, hlo, hrc, hrs⟩ := E
  subst hp
  intro H locs ls hS hw hl
  exact lv_ineg hx hb hd (kk H locs ls hS hw hl)
theorem j_lneg (E : JE X own cc nL d mc ms) {x : Int64} (pc' : Nat) (hd : decode cc pc = .ok (.lneg, 1)) (hp : pc + 1 = pc') (kk : J X nL ws k n pc' lv (.long (-x) :: st)) : J X nL ws k n pc lv (.long x :: st) := by
  obtain ⟨⟨l, s0, D, ca⟩, p, e, R, s, m, args, below, meth, c, Q⟩ := X
  obtain ⟨hx, hb, hml, hown, hwm, hold, hlocks, hG, hfr, hlo, hrc, hrs⟩ := E
  subst hp
  intro H locs ls hS hw hl
  exact lv_lneg hx hb hd (kk H locs ls hS hw hl)
theorem j_i2l (E : JE X own cc nL d mc ms) {x : Int32} (pc' : Nat) (hd : decode cc pc = .ok (.i2l, 1)) (hp : pc + 1 = pc') (kk : J X nL ws k n pc' lv (.long x.toInt64 :: st)) : J X nL ws k n pc lv (.int x :: st) := by
  obtain ⟨⟨l, s0, D, ca⟩, p, e, R, s, m, args, below, meth, c, Q⟩ := X
  obtain ⟨hx, hb, hml, hown, hwm, hold, hlocks, hG, hfr, hlo, hrc, hrs⟩ := E
  subst hp
  intro H locs ls hS hw hl
  exact lv_i2l hx hb hd rfl (kk H locs ls hS hw hl)
theorem j_l2i (E : JE X own cc nL d mc ms) {x : Int64} (pc' : Nat) (hd : decode cc pc = .ok (.l2i, 1)) (hp : pc + 1 = pc') (kk : J X nL ws k n pc' lv (.int x.toInt32 :: st)) : J X nL ws k n pc lv (.long x :: st) := by
  obtain ⟨⟨l, s0, D, ca⟩, p, e, R, s, m, args, below, meth, c, Q⟩ := X
  obtain ⟨hx, hb, hml, hown, hwm, hold, hlocks, hG, hfr, hlo, hrc, hrs⟩ := E
  subst hp
  intro H locs ls hS hw hl
  exact lv_l2i hx hb hd rfl (kk H locs ls hS hw hl)
theorem j_i2b (E : JE X own cc nL d mc ms) {x : Int32} (pc' : Nat) (hd : decode cc pc = .ok (.i2b, 1)) (hp : pc + 1 = pc') (kk : J X nL ws k n pc' lv (.int x.toInt8.toInt32 :: st)) : J X nL ws k n pc lv (.int x :: st) := by
  obtain ⟨⟨l, s0, D, ca⟩, p, e, R, s, m, args, below, meth, c, Q⟩ := X
  obtain ⟨hx, hb, hml, hown, hwm, hold, hlocks, hG, hfr, hlo, hrc, hrs⟩ := E
  subst hp
  intro H locs ls hS hw hl
  exact lv_i2b hx hb hd rfl (kk H locs ls hS hw hl)
theorem j_lushr (E : JE X own cc nL d mc ms) {x : Int64} {y : Int32} (pc' : Nat) (hd : decode cc pc = .ok (.lushr, 1)) (hp : pc + 1 = pc') (kk : J X nL ws k n pc' lv (.long (x.toUInt64 >>> (y.toInt64.toUInt64 &&& Int64.toUInt64 63)).toInt64 :: st)) : J X nL ws k n pc lv (.int y :: .long x :: st) := by
  obtain ⟨⟨l, s0, D, ca⟩, p, e, R, s, m, args, below, meth, c, Q⟩ := X
  obtain ⟨hx, hb, hml, hown, hwm, hold, hlocks, hG, hfr, hlo, hrc, hrs⟩ := E
  subst hp
  intro H locs ls hS hw hl
  exact lv_lushr hx hb hd rfl (kk H locs ls hS hw hl)
theorem j_lshl (E : JE X own cc nL d mc ms) {x : Int64} {y : Int32} (pc' : Nat) (hd : decode cc pc = .ok (.lshl, 1)) (hp : pc + 1 = pc') (kk : J X nL ws k n pc' lv (.long (x <<< (y.toInt64 &&& 63)) :: st)) : J X nL ws k n pc lv (.int y :: .long x :: st) := by
  obtain ⟨⟨l, s0, D, ca⟩, p, e, R, s, m, args, below, meth, c, Q⟩ := X
  obtain ⟨hx, hb, hml, hown, hwm, hold, hlocks, hG, hfr, hlo, hrc, hrs⟩ := E
  subst hp
  intro H locs ls hS hw hl
  exact lv_lshl hx hb hd rfl (kk H locs ls hS hw hl)
theorem j_lshr (E : JE X own cc nL d mc ms) {x : Int64} {y : Int32} (pc' : Nat) (hd : decode cc pc = .ok (.lshr, 1)) (hp : pc + 1 = pc') (kk : J X nL ws k n pc' lv (.long (x >>> (y.toInt64 &&& 63)) :: st)) : J X nL ws k n pc lv (.int y :: .long x :: st) := by
  obtain ⟨⟨l, s0, D, ca⟩, p, e, R, s, m, args, below, meth, c, Q⟩ := X
  obtain ⟨hx, hb, hml, hown, hwm, hold, hlocks, hG, hfr, hlo, hrc, hrs⟩ := E
  subst hp
  intro H locs ls hS hw hl
  exact lv_lshr hx hb hd rfl (kk H locs ls hS hw hl)
theorem j_lcmp (E : JE X own cc nL d mc ms) {x y : Int64} (pc' : Nat) (hd : decode cc pc = .ok (.lcmp, 1)) (hp : pc + 1 = pc') (kk : J X nL ws k n pc' lv (.int (lg_cmp x y) :: st)) : J X nL ws k n pc lv (.long y :: .long x :: st) := by
  obtain ⟨⟨l, s0, D, ca⟩, p, e, R, s, m, args, below, meth, c, Q⟩ := X
  obtain ⟨hx, hb, hml, hown, hwm, hold, hlocks, hG, hfr, hlo, hrc, hrs⟩ := E
  subst hp
  intro H locs ls hS hw hl
  exact W.lcmp hx hb hd (kk H locs ls hS hw hl)
theorem j_null (E : JE X own cc nL d mc ms) (pc' : Nat) (hd : decode cc pc = .ok (.aconst_null, 1)) (hp : pc + 1 = pc') (kk : J X nL ws k n pc' lv (.null :: st)) : J X nL ws k n pc lv (st) := by
  obtain ⟨⟨l, s0, D, ca⟩, p, e, R, s, m, args, below, meth, c, Q⟩ := X
  obtain ⟨hx, hb, hml, hown, hwm, hold, hlocks, hG, hfr, hlo, hrc, hrs⟩ := E
  subst hp
  intro H locs ls hS hw hl
  exact lv_null hx hb hd (kk H locs ls hS hw hl)
theorem j_iconst (E : JE X own cc nL d mc ms) {z : Int} (v : Int32) (pc' : Nat) (hd : decode cc pc = .ok (.iconst z, 1)) (hv : Int32.ofInt z = v) (hp : pc + 1 = pc') (kk : J X nL ws k n pc' lv (.int v :: st)) : J X nL ws k n pc lv (st) := by
  obtain ⟨⟨l, s0, D, ca⟩, p, e, R, s, m, args, below, meth, c, Q⟩ := X
  obtain ⟨hx, hb, hml, hown, hwm, hold, hlocks, hG, hfr, hlo, hrc, hrs⟩ := E
  subst hp
  intro H locs ls hS hw hl
  exact lv_iconst hx hb hd hv (kk H locs ls hS hw hl)
theorem j_bipush (E : JE X own cc nL d mc ms) {z : Int} (v : Int32) (pc' : Nat) (hd : decode cc pc = .ok (.bipush z, 2)) (hv : (Int8.ofInt z).toInt32 = v) (hp : pc + 2 = pc') (kk : J X nL ws k n pc' lv (.int v :: st)) : J X nL ws k n pc lv (st) := by
  obtain ⟨⟨l, s0, D, ca⟩, p, e, R, s, m, args, below, meth, c, Q⟩ := X
  obtain ⟨hx, hb, hml, hown, hwm, hold, hlocks, hG, hfr, hlo, hrc, hrs⟩ := E
  subst hp
  intro H locs ls hS hw hl
  exact lv_bipush hx hb hd hv (kk H locs ls hS hw hl)
theorem j_sipush (E : JE X own cc nL d mc ms) {z : Int} (v : Int32) (pc' : Nat) (hd : decode cc pc = .ok (.sipush z, 3)) (hv : (Int16.ofInt z).toInt32 = v) (hp : pc + 3 = pc') (kk : J X nL ws k n pc' lv (.int v :: st)) : J X nL ws k n pc lv (st) := by
  obtain ⟨⟨l, s0, D, ca⟩, p, e, R, s, m, args, below, meth, c, Q⟩ := X
  obtain ⟨hx, hb, hml, hown, hwm, hold, hlocks, hG, hfr, hlo, hrc, hrs⟩ := E
  subst hp
  intro H locs ls hS hw hl
  exact lv_sipush hx hb hd hv (kk H locs ls hS hw hl)
theorem j_lconst (E : JE X own cc nL d mc ms) {z : Fin 2} (v : Int64) (pc' : Nat) (hd : decode cc pc = .ok (.lconst z, 1)) (hv : Int64.ofNat (z : Nat) = v) (hp : pc + 1 = pc') (kk : J X nL ws k n pc' lv (.long v :: st)) : J X nL ws k n pc lv (st) := by
  obtain ⟨⟨l, s0, D, ca⟩, p, e, R, s, m, args, below, meth, c, Q⟩ := X
  obtain ⟨hx, hb, hml, hown, hwm, hold, hlocks, hG, hfr, hlo, hrc, hrs⟩ := E
  subst hp
  intro H locs ls hS hw hl
  exact lv_lconst hx hb hd hv (kk H locs ls hS hw hl)
theorem j_dup (E : JE X own cc nL d mc ms) {va : Value} (pc' : Nat) (hd : decode cc pc = .ok (.dup, 1)) (hc : va.category = 1) (hp : pc + 1 = pc') (kk : J X nL ws k n pc' lv (va :: va :: st)) : J X nL ws k n pc lv (va :: st) := by
  obtain ⟨⟨l, s0, D, ca⟩, p, e, R, s, m, args, below, meth, c, Q⟩ := X
  obtain ⟨hx, hb, hml, hown, hwm, hold, hlocks, hG, hfr, hlo, hrc, hrs⟩ := E
  subst hp
  intro H locs ls hS hw hl
  exact lv_dup hx hb hd hc (kk H locs ls hS hw hl)
theorem j_pop (E : JE X own cc nL d mc ms) {va : Value} (pc' : Nat) (hd : decode cc pc = .ok (.pop, 1)) (hc : va.category = 1) (hp : pc + 1 = pc') (kk : J X nL ws k n pc' lv (st)) : J X nL ws k n pc lv (va :: st) := by
  obtain ⟨⟨l, s0, D, ca⟩, p, e, R, s, m, args, below, meth, c, Q⟩ := X
  obtain ⟨hx, hb, hml, hown, hwm, hold, hlocks, hG, hfr, hlo, hrc, hrs⟩ := E
  subst hp
  intro H locs ls hS hw hl
  exact lv_pop hx hb hd hc (kk H locs ls hS hw hl)
theorem j_dup_x1 (E : JE X own cc nL d mc ms) {va vb : Value} (pc' : Nat) (hd : decode cc pc = .ok (.dup_x1, 1)) (hc : va.category = 1) (hc2 : vb.category = 1) (hp : pc + 1 = pc') (kk : J X nL ws k n pc' lv (va :: vb :: va :: st)) : J X nL ws k n pc lv (va :: vb :: st) := by
  obtain ⟨⟨l, s0, D, ca⟩, p, e, R, s, m, args, below, meth, c, Q⟩ := X
  obtain ⟨hx, hb, hml, hown, hwm, hold, hlocks, hG, hfr, hlo, hrc, hrs⟩ := E
  subst hp
  intro H locs ls hS hw hl
  exact lv_dup_x1 hx hb hd hc hc2 (kk H locs ls hS hw hl)
theorem j_dup2_11 (E : JE X own cc nL d mc ms) {va vb : Value} (pc' : Nat) (hd : decode cc pc = .ok (.dup2, 1)) (hc : va.category = 1) (hc2 : vb.category = 1) (hp : pc + 1 = pc') (kk : J X nL ws k n pc' lv (va :: vb :: va :: vb :: st)) : J X nL ws k n pc lv (va :: vb :: st) := by
  obtain ⟨⟨l, s0, D, ca⟩, p, e, R, s, m, args, below, meth, c, Q⟩ := X
  obtain ⟨hx, hb, hml, hown, hwm, hold, hlocks, hG, hfr, hlo, hrc, hrs⟩ := E
  subst hp
  intro H locs ls hS hw hl
  exact lv_dup2_11 hx hb hd hc hc2 (kk H locs ls hS hw hl)
theorem j_iload_n (E : JE X own cc nL d mc ms) {q : Fin 4} {x : Int32} (pc' : Nat) (hd : decode cc pc = .ok (.iload_n q, 1)) (i : Nat) (hi : (q : Nat) = i) (hv : lv[i]? = some (some (.int x))) (hp : pc + 1 = pc') (kk : J X nL ws k n pc' lv (.int x :: st)) : J X nL ws k n pc lv (st) := by
  obtain ⟨⟨l, s0, D, ca⟩, p, e, R, s, m, args, below, meth, c, Q⟩ := X
  obtain ⟨hx, hb, hml, hown, hwm, hold, hlocks, hG, hfr, hlo, hrc, hrs⟩ := E
  subst hp
  intro H locs ls hS hw hl
  exact lv_iload_n hx hb hd hi (hl.at hv) (kk H locs ls hS hw hl)
theorem j_iload (E : JE X own cc nL d mc ms) {i : Nat} {x : Int32} (pc' : Nat) (hd : decode cc pc = .ok (.iload i, 2)) (hv : lv[i]? = some (some (.int x))) (hp : pc + 2 = pc') (kk : J X nL ws k n pc' lv (.int x :: st)) : J X nL ws k n pc lv (st) := by
  obtain ⟨⟨l, s0, D, ca⟩, p, e, R, s, m, args, below, meth, c, Q⟩ := X
  obtain ⟨hx, hb, hml, hown, hwm, hold, hlocks, hG, hfr, hlo, hrc, hrs⟩ := E
  subst hp
  intro H locs ls hS hw hl
  exact lv_iload hx hb hd (hl.at hv) (kk H locs ls hS hw hl)
theorem j_istore_n (E : JE X own cc nL d mc ms) {q : Fin 4} {x : Int32} (pc' : Nat) (hd : decode cc pc = .ok (.istore_n q, 1)) (i : Nat) (hi : (q : Nat) = i) (hn : i < nL) (hk : lok lv i = true) (hp : pc + 1 = pc') (kk : J X nL ws k n pc' (lv.set i (some (.int x))) (st)) : J X nL ws k n pc lv (.int x :: st) := by
  obtain ⟨⟨l, s0, D, ca⟩, p, e, R, s, m, args, below, meth, c, Q⟩ := X
  obtain ⟨hx, hb, hml, hown, hwm, hold, hlocks, hG, hfr, hlo, hrc, hrs⟩ := E
  subst hp
  intro H locs ls hS hw hl
  exact lv_istore_n hx hb hd hi hl.A hn rfl (fun ls hl => kk H locs ls hS hw (lset_has1 hk hl))
theorem j_istore (E : JE X own cc nL d mc ms) {i : Nat} {x : Int32} (pc' : Nat) (hd : decode cc pc = .ok (.istore i, 2)) (hn : i < nL) (hk : lok lv i = true) (hp : pc + 2 = pc') (kk : J X nL ws k n pc' (lv.set i (some (.int x))) (st)) : J X nL ws k n pc lv (.int x :: st) := by
  obtain ⟨⟨l, s0, D, ca⟩, p, e, R, s, m, args, below, meth, c, Q⟩ := X
  obtain ⟨hx, hb, hml, hown, hwm, hold, hlocks, hG, hfr, hlo, hrc, hrs⟩ := E
  subst hp
  intro H locs ls hS hw hl
  exact lv_istore hx hb hd hl.A hn rfl (fun ls hl => kk H locs ls hS hw (lset_has1 hk hl))
theorem j_lload_n (E : JE X own cc nL d mc ms) {q : Fin 4} {x : Int64} (pc' : Nat) (hd : decode cc pc = .ok (.lload_n q, 1)) (i : Nat) (hi : (q : Nat) = i) (hv : lv[i]? = some (some (.long x))) (hp : pc + 1 = pc') (kk : J X nL ws k n pc' lv (.long x :: st)) : J X nL ws k n pc lv (st) := by
  obtain ⟨⟨l, s0, D, ca⟩, p, e, R, s, m, args, below, meth, c, Q⟩ := X
  obtain ⟨hx, hb, hml, hown, hwm, hold, hlocks, hG, hfr, hlo, hrc, hrs⟩ := E
  subst hp
  intro H locs ls hS hw hl
  exact lv_lload_n hx hb hd hi (hl.at hv) (kk H locs ls hS hw hl)
theorem j_lload (E : JE X own cc nL d mc ms) {i : Nat} {x : Int64} (pc' : Nat) (hd : decode cc pc = .ok (.lload i, 2)) (hv : lv[i]? = some (some (.long x))) (hp : pc + 2 = pc') (kk : J X nL ws k n pc' lv (.long x :: st)) : J X nL ws k n pc lv (st) := by
  obtain ⟨⟨l, s0, D, ca⟩, p, e, R, s, m, args, below, meth, c, Q⟩ := X
  obtain ⟨hx, hb, hml, hown, hwm, hold, hlocks, hG, hfr, hlo, hrc, hrs⟩ := E
  subst hp
  intro H locs ls hS hw hl
  exact lv_lload hx hb hd (hl.at hv) (kk H locs ls hS hw hl)
theorem j_lstore_n (E : JE X own cc nL d mc ms) {q : Fin 4} {x : Int64} (pc' : Nat) (hd : decode cc pc = .ok (.lstore_n q, 1)) (i : Nat) (hi : (q : Nat) = i) (hn : i + 1 < nL) (hk : lok lv i = true) (hp : pc + 1 = pc') (kk : J X nL ws k n pc' ((lv.set i (some (.long x))).set (i + 1) none) (st)) : J X nL ws k n pc lv (.long x :: st) := by
  obtain ⟨⟨l, s0, D, ca⟩, p, e, R, s, m, args, below, meth, c, Q⟩ := X
  obtain ⟨hx, hb, hml, hown, hwm, hold, hlocks, hG, hfr, hlo, hrc, hrs⟩ := E
  subst hp
  intro H locs ls hS hw hl
  exact lv_lstore_n hx hb hd hi hl.A hn rfl (fun ls hl => kk H locs ls hS hw (lset_has2 hk hl))
theorem j_lstore (E : JE X own cc nL d mc ms) {i : Nat} {x : Int64} (pc' : Nat) (hd : decode cc pc = .ok (.lstore i, 2)) (hn : i + 1 < nL) (hk : lok lv i = true) (hp : pc + 2 = pc') (kk : J X nL ws k n pc' ((lv.set i (some (.long x))).set (i + 1) none) (st)) : J X nL ws k n pc lv (.long x :: st) := by
  obtain ⟨⟨l, s0, D, ca⟩, p, e, R, s, m, args, below, meth, c, Q⟩ := X
  obtain ⟨hx, hb, hml, hown, hwm, hold, hlocks, hG, hfr, hlo, hrc, hrs⟩ := E
  subst hp
  intro H locs ls hS hw hl
  exact lv_lstore hx hb hd hl.A hn rfl (fun ls hl => kk H locs ls hS hw (lset_has2 hk hl))
theorem j_aload_n (E : JE X own cc nL d mc ms) {q : Fin 4} {x : Nat} (pc' : Nat) (hd : decode cc pc = .ok (.aload_n q, 1)) (i : Nat) (hi : (q : Nat) = i) (hv : lv[i]? = some (some (.ref x))) (hp : pc + 1 = pc') (kk : J X nL ws k n pc' lv (.ref x :: st)) : J X nL ws k n pc lv (st) := by
  obtain ⟨⟨l, s0, D, ca⟩, p, e, R, s, m, args, below, meth, c, Q⟩ := X
  obtain ⟨hx, hb, hml, hown, hwm, hold, hlocks, hG, hfr, hlo, hrc, hrs⟩ := E
  subst hp
  intro H locs ls hS hw hl
  exact lv_aload_n hx hb hd hi (hl.at hv) (kk H locs ls hS hw hl)
theorem j_aload (E : JE X own cc nL d mc ms) {i : Nat} {x : Nat} (pc' : Nat) (hd : decode cc pc = .ok (.aload i, 2)) (hv : lv[i]? = some (some (.ref x))) (hp : pc + 2 = pc') (kk : J X nL ws k n pc' lv (.ref x :: st)) : J X nL ws k n pc lv (st) := by
  obtain ⟨⟨l, s0, D, ca⟩, p, e, R, s, m, args, below, meth, c, Q⟩ := X
  obtain ⟨hx, hb, hml, hown, hwm, hold, hlocks, hG, hfr, hlo, hrc, hrs⟩ := E
  subst hp
  intro H locs ls hS hw hl
  exact lv_aload hx hb hd (hl.at hv) (kk H locs ls hS hw hl)
theorem j_astore_n (E : JE X own cc nL d mc ms) {q : Fin 4} {x : Nat} (pc' : Nat) (hd : decode cc pc = .ok (.astore_n q, 1)) (i : Nat) (hi : (q : Nat) = i) (hn : i < nL) (hk : lok lv i = true) (hp : pc + 1 = pc') (kk : J X nL ws k n pc' (lv.set i (some (.ref x))) (st)) : J X nL ws k n pc lv (.ref x :: st) := by
  obtain ⟨⟨l, s0, D, ca⟩, p, e, R, s, m, args, below, meth, c, Q⟩ := X
  obtain ⟨hx, hb, hml, hown, hwm, hold, hlocks, hG, hfr, hlo, hrc, hrs⟩ := E
  subst hp
  intro H locs ls hS hw hl
  exact lv_astore_n hx hb hd hi hl.A hn rfl (fun ls hl => kk H locs ls hS hw (lset_has1 hk hl))
theorem j_astore (E : JE X own cc nL d mc ms) {i : Nat} {x : Nat} (pc' : Nat) (hd : decode cc pc = .ok (.astore i, 2)) (hn : i < nL) (hk : lok lv i = true) (hp : pc + 2 = pc') (kk : J X nL ws k n pc' (lv.set i (some (.ref x))) (st)) : J X nL ws k n pc lv (.ref x :: st) := by
  obtain ⟨⟨l, s0, D, ca⟩, p, e, R, s, m, args, below, meth, c, Q⟩ := X
  obtain ⟨hx, hb, hml, hown, hwm, hold, hlocks, hG, hfr, hlo, hrc, hrs⟩ := E
  subst hp
  intro H locs ls hS hw hl
  exact lv_astore hx hb hd hl.A hn rfl (fun ls hl => kk H locs ls hS hw (lset_has1 hk hl))
theorem j_aload_nN (E : JE X own cc nL d mc ms) {q : Fin 4} (pc' : Nat) (hd : decode cc pc = .ok (.aload_n q, 1)) (i : Nat) (hi : (q : Nat) = i) (hv : lv[i]? = some (some .null)) (hp : pc + 1 = pc') (kk : J X nL ws k n pc' lv (.null :: st)) : J X nL ws k n pc lv (st) := by
  obtain ⟨⟨l, s0, D, ca⟩, p, e, R, s, m, args, below, meth, c, Q⟩ := X
  obtain ⟨hx, hb, hml, hown, hwm, hold, hlocks, hG, hfr, hlo, hrc, hrs⟩ := E
  subst hp
  intro H locs ls hS hw hl
  exact lv_aload_nN hx hb hd hi (hl.at hv) (kk H locs ls hS hw hl)
theorem j_iinc (E : JE X own cc nL d mc ms) {i : Nat} {z : Int} {x : Int32} (v : Int32) (pc' : Nat) (hd : decode cc pc = .ok (.iinc i z, 3)) (hv : lv[i]? = some (some (.int x))) (hz : x + Int32.ofInt z = v) (hn : i < nL) (hk : lok lv i = true) (hp : pc + 3 = pc') (kk : J X nL ws k n pc' (lv.set i (some (.int v))) st) : J X nL ws k n pc lv st := by
  obtain ⟨⟨l, s0, D, ca⟩, p, e, R, s, m, args, below, meth, c, Q⟩ := X
  obtain ⟨hx, hb, hml, hown, hwm, hold, hlocks, hG, hfr, hlo, hrc, hrs⟩ := E
  subst hp
  intro H locs ls hS hw hl
  obtain ⟨q, hq⟩ := List.getElem?_of_mem (lA_mem.mpr hv)
  exact lv_iinc hx hb hd hl.A hq hz hn rfl (fun ls hl => kk H locs ls hS hw (lset_has1 hk hl))
theorem j_if_eq (E : JE X own cc nL d mc ms) {x : Int32} {off : Int} (tgt pc' : Nat) (hd : decode cc pc = .ok (.ifCond .eq off, 3)) (ht : (pc : Int) + off = (tgt : Int)) (hp : pc + 3 = pc') (kt : x = 0 → J X nL ws k n tgt lv st) (kf : ¬ x = 0 → J X nL ws k n pc' lv st) : J X nL ws k n pc lv (.int x :: st) := by
  obtain ⟨⟨l, s0, D, ca⟩, p, e, R, s, m, args, below, meth, c, Q⟩ := X
  obtain ⟨hx, hb, hml, hown, hwm, hold, hlocks, hG, hfr, hlo, hrc, hrs⟩ := E
  subst hp
  intro H locs ls hS hw hl
  exact lv_if_eq hx hb hd ht (fun z => kt z H locs ls hS hw hl) (fun z => kf z H locs ls hS hw hl)
theorem j_if_ne (E : JE X own cc nL d mc ms) {x : Int32} {off : Int} (tgt pc' : Nat) (hd : decode cc pc = .ok (.ifCond .ne off, 3)) (ht : (pc : Int) + off = (tgt : Int)) (hp : pc + 3 = pc') (kt : ¬ x = 0 → J X nL ws k n tgt lv st) (kf : x = 0 → J X nL ws k n pc' lv st) : J X nL ws k n pc lv (.int x :: st) := by
  obtain ⟨⟨l, s0, D, ca⟩, p, e, R, s, m, args, below, meth, c, Q⟩ := X
  obtain ⟨hx, hb, hml, hown, hwm, hold, hlocks, hG, hfr, hlo, hrc, hrs⟩ := E
  subst hp
  intro H locs ls hS hw hl
  exact lv_if_ne hx hb hd ht (fun z => kt z H locs ls hS hw hl) (fun z => kf z H locs ls hS hw hl)
theorem j_if_lt (E : JE X own cc nL d mc ms) {x : Int32} {off : Int} (tgt pc' : Nat) (hd : decode cc pc = .ok (.ifCond .lt off, 3)) (ht : (pc : Int) + off = (tgt : Int)) (hp : pc + 3 = pc') (kt : x < 0 → J X nL ws k n tgt lv st) (kf : ¬ x < 0 → J X nL ws k n pc' lv st) : J X nL ws k n pc lv (.int x :: st) := by
  obtain ⟨⟨l, s0, D, ca⟩, p, e, R, s, m, args, below, meth, c, Q⟩ := X
  obtain ⟨hx, hb, hml, hown, hwm, hold, hlocks, hG, hfr, hlo, hrc, hrs⟩ := E
  subst hp
  intro H locs ls hS hw hl
  exact lv_if_lt hx hb hd ht (fun z => kt z H locs ls hS hw hl) (fun z => kf z H locs ls hS hw hl)
theorem j_if_ge (E : JE X own cc nL d mc ms) {x : Int32} {off : Int} (tgt pc' : Nat) (hd : decode cc pc = .ok (.ifCond .ge off, 3)) (ht : (pc : Int) + off = (tgt : Int)) (hp : pc + 3 = pc') (kt : 0 ≤ x → J X nL ws k n tgt lv st) (kf : ¬ 0 ≤ x → J X nL ws k n pc' lv st) : J X nL ws k n pc lv (.int x :: st) := by
  obtain ⟨⟨l, s0, D, ca⟩, p, e, R, s, m, args, below, meth, c, Q⟩ := X
  obtain ⟨hx, hb, hml, hown, hwm, hold, hlocks, hG, hfr, hlo, hrc, hrs⟩ := E
  subst hp
  intro H locs ls hS hw hl
  exact lv_if_ge hx hb hd ht (fun z => kt z H locs ls hS hw hl) (fun z => kf z H locs ls hS hw hl)
theorem j_if_gt (E : JE X own cc nL d mc ms) {x : Int32} {off : Int} (tgt pc' : Nat) (hd : decode cc pc = .ok (.ifCond .gt off, 3)) (ht : (pc : Int) + off = (tgt : Int)) (hp : pc + 3 = pc') (kt : 0 < x → J X nL ws k n tgt lv st) (kf : ¬ 0 < x → J X nL ws k n pc' lv st) : J X nL ws k n pc lv (.int x :: st) := by
  obtain ⟨⟨l, s0, D, ca⟩, p, e, R, s, m, args, below, meth, c, Q⟩ := X
  obtain ⟨hx, hb, hml, hown, hwm, hold, hlocks, hG, hfr, hlo, hrc, hrs⟩ := E
  subst hp
  intro H locs ls hS hw hl
  exact lv_if_gt hx hb hd ht (fun z => kt z H locs ls hS hw hl) (fun z => kf z H locs ls hS hw hl)
theorem j_if_le (E : JE X own cc nL d mc ms) {x : Int32} {off : Int} (tgt pc' : Nat) (hd : decode cc pc = .ok (.ifCond .le off, 3)) (ht : (pc : Int) + off = (tgt : Int)) (hp : pc + 3 = pc') (kt : x ≤ 0 → J X nL ws k n tgt lv st) (kf : ¬ x ≤ 0 → J X nL ws k n pc' lv st) : J X nL ws k n pc lv (.int x :: st) := by
  obtain ⟨⟨l, s0, D, ca⟩, p, e, R, s, m, args, below, meth, c, Q⟩ := X
  obtain ⟨hx, hb, hml, hown, hwm, hold, hlocks, hG, hfr, hlo, hrc, hrs⟩ := E
  subst hp
  intro H locs ls hS hw hl
  exact lv_if_le hx hb hd ht (fun z => kt z H locs ls hS hw hl) (fun z => kf z H locs ls hS hw hl)
theorem j_icmp_eq (E : JE X own cc nL d mc ms) {x y : Int32} {off : Int} (tgt pc' : Nat) (hd : decode cc pc = .ok (.if_icmp .eq off, 3)) (ht : (pc : Int) + off = (tgt : Int)) (hp : pc + 3 = pc') (kt : x = y → J X nL ws k n tgt lv st) (kf : ¬ x = y → J X nL ws k n pc' lv st) : J X nL ws k n pc lv (.int y :: .int x :: st) := by
  obtain ⟨⟨l, s0, D, ca⟩, p, e, R, s, m, args, below, meth, c, Q⟩ := X
  obtain ⟨hx, hb, hml, hown, hwm, hold, hlocks, hG, hfr, hlo, hrc, hrs⟩ := E
  subst hp
  intro H locs ls hS hw hl
  exact lv_icmp_eq hx hb hd ht (fun z => kt z H locs ls hS hw hl) (fun z => kf z H locs ls hS hw hl)
theorem j_icmp_ne (E : JE X own cc nL d mc ms) {x y : Int32} {off : Int} (tgt pc' : Nat) (hd : decode cc pc = .ok (.if_icmp .ne off, 3)) (ht : (pc : Int) + off = (tgt : Int)) (hp : pc + 3 = pc') (kt : ¬ x = y → J X nL ws k n tgt lv st) (kf : x = y → J X nL ws k n pc' lv st) : J X nL ws k n pc lv (.int y :: .int x :: st) := by
  obtain ⟨⟨l, s0, D, ca⟩, p, e, R, s, m, args, below, meth, c, Q⟩ := X
  obtain ⟨hx, hb, hml, hown, hwm, hold, hlocks, hG, hfr, hlo, hrc, hrs⟩ := E
  subst hp
  intro H locs ls hS hw hl
  exact lv_icmp_ne hx hb hd ht (fun z => kt z H locs ls hS hw hl) (fun z => kf z H locs ls hS hw hl)
theorem j_icmp_lt (E : JE X own cc nL d mc ms) {x y : Int32} {off : Int} (tgt pc' : Nat) (hd : decode cc pc = .ok (.if_icmp .lt off, 3)) (ht : (pc : Int) + off = (tgt : Int)) (hp : pc + 3 = pc') (kt : x < y → J X nL ws k n tgt lv st) (kf : ¬ x < y → J X nL ws k n pc' lv st) : J X nL ws k n pc lv (.int y :: .int x :: st) := by
  obtain ⟨⟨l, s0, D, ca⟩, p, e, R, s, m, args, below, meth, c, Q⟩ := X
  obtain ⟨hx, hb, hml, hown, hwm, hold, hlocks, hG, hfr, hlo, hrc, hrs⟩ := E
  subst hp
  intro H locs ls hS hw hl
  exact lv_icmp_lt hx hb hd ht (fun z => kt z H locs ls hS hw hl) (fun z => kf z H locs ls hS hw hl)
theorem j_icmp_ge (E : JE X own cc nL d mc ms) {x y : Int32} {off : Int} (tgt pc' : Nat) (hd : decode cc pc = .ok (.if_icmp .ge off, 3)) (ht : (pc : Int) + off = (tgt : Int)) (hp : pc + 3 = pc') (kt : y ≤ x → J X nL ws k n tgt lv st) (kf : ¬ y ≤ x → J X nL ws k n pc' lv st) : J X nL ws k n pc lv (.int y :: .int x :: st) := by
  obtain ⟨⟨l, s0, D, ca⟩, p, e, R, s, m, args, below, meth, c, Q⟩ := X
  obtain ⟨hx, hb, hml, hown, hwm, hold, hlocks, hG, hfr, hlo, hrc, hrs⟩ := E
  subst hp
  intro H locs ls hS hw hl
  exact lv_icmp_ge hx hb hd ht (fun z => kt z H locs ls hS hw hl) (fun z => kf z H locs ls hS hw hl)
theorem j_icmp_gt (E : JE X own cc nL d mc ms) {x y : Int32} {off : Int} (tgt pc' : Nat) (hd : decode cc pc = .ok (.if_icmp .gt off, 3)) (ht : (pc : Int) + off = (tgt : Int)) (hp : pc + 3 = pc') (kt : y < x → J X nL ws k n tgt lv st) (kf : ¬ y < x → J X nL ws k n pc' lv st) : J X nL ws k n pc lv (.int y :: .int x :: st) := by
  obtain ⟨⟨l, s0, D, ca⟩, p, e, R, s, m, args, below, meth, c, Q⟩ := X
  obtain ⟨hx, hb, hml, hown, hwm, hold, hlocks, hG, hfr, hlo, hrc, hrs⟩ := E
  subst hp
  intro H locs ls hS hw hl
  exact lv_icmp_gt hx hb hd ht (fun z => kt z H locs ls hS hw hl) (fun z => kf z H locs ls hS hw hl)
theorem j_icmp_le (E : JE X own cc nL d mc ms) {x y : Int32} {off : Int} (tgt pc' : Nat) (hd : decode cc pc = .ok (.if_icmp .le off, 3)) (ht : (pc : Int) + off = (tgt : Int)) (hp : pc + 3 = pc') (kt : x ≤ y → J X nL ws k n tgt lv st) (kf : ¬ x ≤ y → J X nL ws k n pc' lv st) : J X nL ws k n pc lv (.int y :: .int x :: st) := by
  obtain ⟨⟨l, s0, D, ca⟩, p, e, R, s, m, args, below, meth, c, Q⟩ := X
  obtain ⟨hx, hb, hml, hown, hwm, hold, hlocks, hG, hfr, hlo, hrc, hrs⟩ := E
  subst hp
  intro H locs ls hS hw hl
  exact lv_icmp_le hx hb hd ht (fun z => kt z H locs ls hS hw hl) (fun z => kf z H locs ls hS hw hl)
theorem j_goto (E : JE X own cc nL d mc ms) {off : Int} (tgt : Nat) (hd : decode cc pc = .ok (.goto off, 3)) (ht : (pc : Int) + off = (tgt : Int)) (kk : J X nL ws k n tgt lv st) : J X nL ws k n pc lv st := by
  obtain ⟨⟨l, s0, D, ca⟩, p, e, R, s, m, args, below, meth, c, Q⟩ := X
  obtain ⟨hx, hb, hml, hown, hwm, hold, hlocks, hG, hfr, hlo, hrc, hrs⟩ := E
  intro H locs ls hS hw hl
  exact lv_goto hx hb hd ht (kk H locs ls hS hw hl)
theorem j_tableOut (E : JE X own cc nL d mc ms) {dflt lo hi : Int} {offs : Array Int} {len : Nat} {x : Int32} (tgt : Nat) (hd : decode cc pc = .ok (.tableswitch dflt lo hi offs, len)) (h : x.toInt < lo ∨ hi < x.toInt) (ht : (pc : Int) + dflt = (tgt : Int)) (kk : J X nL ws k n tgt lv st) : J X nL ws k n pc lv (.int x :: st) := by
  obtain ⟨⟨l, s0, D, ca⟩, p, e, R, s, m, args, below, meth, c, Q⟩ := X
  obtain ⟨hx, hb, hml, hown, hwm, hold, hlocks, hG, hfr, hlo, hrc, hrs⟩ := E
  intro H locs ls hS hw hl
  exact lv_tableOut hx hb hd h ht (kk H locs ls hS hw hl)
theorem j_tableIn (E : JE X own cc nL d mc ms) {dflt lo hi : Int} {offs : Array Int} {len : Nat} {x : Int32} {off : Int} (tgt : Nat) (hd : decode cc pc = .ok (.tableswitch dflt lo hi offs, len)) (h1 : ¬ x.toInt < lo) (h2 : ¬ hi < x.toInt) (ho : offs[(x.toInt - lo).toNat]? = some off) (ht : (pc : Int) + off = (tgt : Int)) (kk : J X nL ws k n tgt lv st) : J X nL ws k n pc lv (.int x :: st) := by
  obtain ⟨⟨l, s0, D, ca⟩, p, e, R, s, m, args, below, meth, c, Q⟩ := X
  obtain ⟨hx, hb, hml, hown, hwm, hold, hlocks, hG, hfr, hlo, hrc, hrs⟩ := E
  intro H locs ls hS hw hl
  exact lv_tableIn hx hb hd h1 h2 ho ht (kk H locs ls hS hw hl)
end JR
end
section
/-! rows on cells, over the parts of a world -/
def W9 (w : Cond) : Prop := w ∈ lw_tbl ∧ goodWord w = true
theorem GLB.word {g : GT} (h : GLB g) {s : State} (hw : g.2.1.WarmedH s.vm) {w : Cond} (h9 : W9 w) (a : Array Value) : w.before a s = true := word_at hw (good_of_word h9.2) (h.2.1 w h9.1 #[])
theorem GLB.K {g : GT} (h : GLB g) {s : State} (hw : g.2.1.WarmedH s.vm) : va_K g.2.2.1 clsL (tysL g.2.2.2) s := va_K.moved hw.alike h.2.2
/-- a field of a class, as an instruction of 'own' names it -/
def CLok (C : String) (T : u_T) (N : Nat) (ty0 : Nat → FieldType) : Prop := (∀ w ∈ u_ws C T N, W9 w) ∧ (∀ k, k < N → parseFieldDescriptor (T k).2.2.1 = some (ty0 k)) ∧ ∀ a, a < N → ∀ b, b < N → a ≠ b → (T a).2.1 ≠ (T b).2.1
def FLk (own : String) (index ci kf : Nat) (ty : FieldType) (fin : Bool) : Prop := ∃ (C : String) (T : u_T) (N : Nat) (ty0 : Nat → FieldType) (ref : String), clsL[ci]? = some (C, T, N) ∧ kf < N ∧ CLok C T N ty0 ∧ W9 (.fieldLink own index ref (T kf).2.1 (T kf).2.2.1) ∧ ((T kf).1 = ref ∨ W9 (.sameField ref (T kf).1 (T kf).2.1 (T kf).2.2.1)) ∧ (T kf).2.2.2 = fin ∧ parseFieldDescriptor (T kf).2.2.1 = some ty ∧ (fin = true → (T kf).1 = own)
/-- .. of a nest mate -/
def FLn (own : String) (index ci kf : Nat) (ty : FieldType) : Prop := ∃ (C : String) (T : u_T) (N : Nat) (ty0 : Nat → FieldType) (ref host : String), clsL[ci]? = some (C, T, N) ∧ kf < N ∧ CLok C T N ty0 ∧ (.fieldLinkNest own index ref (T kf).2.1 (T kf).2.2.1 host) ∈ lw_tbl ∧ (T kf).1 = ref ∧ (T kf).2.2.2 = false ∧ parseFieldDescriptor (T kf).2.2.1 = some ty
def aB (g : GT) (n : Nat) (f : Nat → Int32) : va_E := .inl (g.2.2.2 0, n, .inl f)
def aI (g : GT) (n : Nat) (f : Nat → Int32) : va_E := .inl (g.2.2.2 1, n, .inl f)
def aJ (g : GT) (n : Nat) (f : Nat → Int64) : va_E := .inl (g.2.2.2 2, n, .inr (.inl f))
def aZ (g : GT) (n : Nat) (f : Nat → Int32) : va_E := .inl (g.2.2.2 3, n, .inl f)
def aO (g : GT) (n : Nat) (f : Nat → Option Nat) : va_E := .inl (g.2.2.2 4, n, .inr (.inr (.inr (.inr f))))
section JH
variable {X : XT} {own : String} {cc : ByteArray} {nL d mc ms : Nat} {ws ws1 : List Asn} {k n pc : Nat} {lv : List (Option Value)} {st : List Value} {a : Nat}
theorem j_getf (E : JE X own cc nL d mc ms) {index ci kf : Nat} {ty : FieldType} {fin : Bool} {fs : List Value} {v : Value} (pc' : Nat) (hd : decode cc pc = .ok (.getfield index, 3)) (hF : FLk own index ci kf ty fin) (hp : Pick ws (pt a (.inr (ci, fs))) ws1) (hv : fs[kf]? = some v) (hpc : pc + 3 = pc') (kk : J X nL ws k n pc' lv (v :: st)) : J X nL ws k n pc lv (.ref a :: st) := by
  obtain ⟨⟨l, s0, D, ca⟩, p, e, R, s, m, args, below, meth, c, Q⟩ := X
  obtain ⟨hx, hb, hml, hown, hwm, hold, hlocks, hG, hfr, hlo, hrc, hrs⟩ := E
  subst hpc
  intro H locs ls hS hw hl
  obtain ⟨w, hP, hD, hs⟩ := id hw
  obtain ⟨q, hq, -⟩ := pick_at hp hs
  obtain ⟨C, T, N, ty0, ref, hc, hk, hcl, hl9, hsm, -, -, -⟩ := hF
  refine va_get (Ts := u_ws C T N) hx hb (fun w h => hG.word hwm (hcl.1 w h) _) (fun w h => h) hown (hG.K hwm) hP q hq hc kf hk (hG.word hwm hl9 _) (fun x h => ?_) hv hd (kk H locs ls hS hw hl)
  rcases hsm with h1 | h1
  · rw [← h1]; exact h
  · exact u_same (hG.word hwm h1 args) x h
theorem j_getfN (E : JE X own cc nL d mc ms) {index ci kf : Nat} {ty : FieldType} {fs : List Value} {v : Value} (pc' : Nat) (hd : decode cc pc = .ok (.getfield index, 3)) (hF : FLn own index ci kf ty) (hp : Pick ws (pt a (.inr (ci, fs))) ws1) (hv : fs[kf]? = some v) (hpc : pc + 3 = pc') (kk : J X nL ws k n pc' lv (v :: st)) : J X nL ws k n pc lv (.ref a :: st) := by
  obtain ⟨⟨l, s0, D, ca⟩, p, e, R, s, m, args, below, meth, c, Q⟩ := X
  obtain ⟨hx, hb, hml, hown, hwm, hold, hlocks, hG, hfr, hlo, hrc, hrs⟩ := E
  subst hpc
  intro H locs ls hS hw hl
  obtain ⟨w, hP, hD, hs⟩ := id hw
  obtain ⟨q, hq, -⟩ := pick_at hp hs
  obtain ⟨C, T, N, ty0, ref, host, hc, hk, hcl, hl9, hsm, -, -⟩ := hF
  refine va_getN (host := host) (Ts := u_ws C T N) hx hb (fun w h => hG.word hwm (hcl.1 w h) _) (fun w h => h) hown (hG.K hwm) hP q hq hc kf hk (va_Nw.use rfl (va_Nw.warmF hwm (hG.2.1 _ hl9 #[]))) (fun x h => ?_) hv hd (kk H locs ls hS hw hl)
  rw [← hsm]; exact h
theorem j_putf (E : JE X own cc nL d mc ms) {index ci kf : Nat} {ty : FieldType} {fs : List Value} {v : Value} (pc' : Nat) (hd : decode cc pc = .ok (.putfield index, 3)) (hF : FLk own index ci kf ty false) (hp : Pick ws (pt a (.inr (ci, fs))) ws1) (hn : narrow ty v = v) (hf : fits ty v = true) (hl : kf < fs.length) (hpc : pc + 3 = pc') (kk : J X nL (pt a (.inr (ci, fs.set kf v)) :: ws1) k n pc' lv st) : J X nL ws k n pc lv (v :: .ref a :: st) := by
  obtain ⟨⟨l, s0, D, ca⟩, p, e, R, s, m, args, below, meth, c, Q⟩ := X
  obtain ⟨hx, hb, hml, hown, hwm, hold, hlocks, hG, hfr, hlo, hrc, hrs⟩ := E
  subst hpc
  intro H locs ls hS hw hls
  obtain ⟨w, hP, hD, hs⟩ := id hw
  obtain ⟨q, hq, hset⟩ := pick_at hp hs
  obtain ⟨C, T, N, ty0, ref, hc, hk, hcl, hl9, hsm, hfin, hty, -⟩ := hF
  refine va_put (Ts := u_ws C T N) hx hb (fun w h => hG.word hwm (hcl.1 w h) _) (fun w h => h) ty0 hcl.2.1 hcl.2.2 hown (hG.K hwm) hP hD hS q hq hc kf hk (hG.word hwm hl9 _) (fun x h => ?_) hfin hty hn hf hl hd (fun H1 locs1 hP1 hD1 hS1 => kk H1 locs1 ls hS1 ⟨_, hP1, hD1, hset _⟩ hls)
  rcases hsm with h1 | h1
  · rw [← h1]; exact h
  · exact u_same (hG.word hwm h1 args) x h
theorem j_putfN (E : JE X own cc nL d mc ms) {index ci kf : Nat} {ty : FieldType} {fs : List Value} {v : Value} (pc' : Nat) (hd : decode cc pc = .ok (.putfield index, 3)) (hF : FLn own index ci kf ty) (hp : Pick ws (pt a (.inr (ci, fs))) ws1) (hn : narrow ty v = v) (hf : fits ty v = true) (hl : kf < fs.length) (hpc : pc + 3 = pc') (kk : J X nL (pt a (.inr (ci, fs.set kf v)) :: ws1) k n pc' lv st) : J X nL ws k n pc lv (v :: .ref a :: st) := by
  obtain ⟨⟨l, s0, D, ca⟩, p, e, R, s, m, args, below, meth, c, Q⟩ := X
  obtain ⟨hx, hb, hml, hown, hwm, hold, hlocks, hG, hfr, hlo, hrc, hrs⟩ := E
  subst hpc
  intro H locs ls hS hw hls
  obtain ⟨w, hP, hD, hs⟩ := id hw
  obtain ⟨q, hq, hset⟩ := pick_at hp hs
  obtain ⟨C, T, N, ty0, ref, host, hc, hk, hcl, hl9, hsm, hfin, hty⟩ := hF
  refine va_putN (host := host) (Ts := u_ws C T N) hx hb (fun w h => hG.word hwm (hcl.1 w h) _) (fun w h => h) ty0 hcl.2.1 hcl.2.2 hown (hG.K hwm) hP hD hS q hq hc kf hk (va_Nw.use rfl (va_Nw.warmF hwm (hG.2.1 _ hl9 #[]))) (fun x h => ?_) hfin hty hn hf hl hd (fun H1 locs1 hP1 hD1 hS1 => kk H1 locs1 ls hS1 ⟨_, hP1, hD1, hset _⟩ hls)
  rw [← hsm]; exact h
/-- in a constructor -/
def JIn (X : XT) : Prop := X.2.2.2.2.2.2.2.2.1.name = "<init>"
theorem j_putfF (E : JE X own cc nL d mc ms) (hin : JIn X) {index ci kf : Nat} {ty : FieldType} {fs : List Value} {v : Value} (pc' : Nat) (hd : decode cc pc = .ok (.putfield index, 3)) (hF : FLk own index ci kf ty true) (hp : Pick ws (pt a (.inr (ci, fs))) ws1) (hn : narrow ty v = v) (hf : fits ty v = true) (hl : kf < fs.length) (hpc : pc + 3 = pc') (kk : J X nL (pt a (.inr (ci, fs.set kf v)) :: ws1) k n pc' lv st) : J X nL ws k n pc lv (v :: .ref a :: st) := by
  obtain ⟨⟨l, s0, D, ca⟩, p, e, R, s, m, args, below, meth, c, Q⟩ := X
  obtain ⟨hx, hb, hml, hown, hwm, hold, hlocks, hG, hfr, hlo, hrc, hrs⟩ := E
  subst hpc
  intro H locs ls hS hw hls
  obtain ⟨w, hP, hD, hs⟩ := id hw
  obtain ⟨q, hq, hset⟩ := pick_at hp hs
  obtain ⟨C, T, N, ty0, ref, hc, hk, hcl, hl9, hsm, hfin, hty, hdecl⟩ := hF
  refine va_putF (Ts := u_ws C T N) hx hb (fun w h => hG.word hwm (hcl.1 w h) _) (fun w h => h) ty0 hcl.2.1 hcl.2.2 hown (hG.K hwm) hP hD hS q hq hc kf hk (hG.word hwm hl9 _) (fun x h => ?_) hfin hin (hdecl rfl) hty hn hf hl hd (fun H1 locs1 hP1 hD1 hS1 => kk H1 locs1 ls hS1 ⟨_, hP1, hD1, hset _⟩ hls)
  rcases hsm with h1 | h1
  · rw [← h1]; exact h
  · exact u_same (hG.word hwm h1 args) x h
/-- a new object of class ci -/
def CNk (own : String) (index ci : Nat) (fs : List Value) (N : Nat) : Prop := ∃ (C : String) (T : u_T) (ty0 : Nat → FieldType), clsL[ci]? = some (C, T, N) ∧ CLok C T N ty0 ∧ W9 (.classLink own index C) ∧ W9 (.instantiable C N) ∧ W9 (.initialized C) ∧ ∀ j, j < N → defaultValue (ty0 j) = vp_V fs j
theorem j_new (E : JE X own cc nL d mc ms) {index ci N : Nat} {fs : List Value} (pc' : Nat) (hd : decode cc pc = .ok (.new index, 3)) (hF : CNk own index ci fs N) (hk : k + 1 ≤ mc) (hn : n + N ≤ ms) (hpc : pc + 3 = pc') (kk : ∀ q : Nat, J X nL (pt q (.inr (ci, fs)) :: ws) (k + 1) (n + N) pc' lv (.ref q :: st)) : J X nL ws k n pc lv st := by
  obtain ⟨⟨l, s0, D, ca⟩, p, e, R, s, m, args, below, meth, c, Q⟩ := X
  obtain ⟨hx, hb, hml, hown, hwm, hold, hlocks, hG, hfr, hlo, hrc, hrs⟩ := E
  subst hpc
  intro H locs ls hS hw hls
  obtain ⟨w, hP, hD, hs⟩ := id hw
  obtain ⟨C, T, ty0, hc, hcl, h1, h2, h3, h4⟩ := hF
  exact va_new (Ts := u_ws C T N) hx hb (fun w h => hG.word hwm (hcl.1 w h) _) (fun w h => h) ty0 hcl.2.1 hown (hG.word hwm h1 _) (hG.word hwm h2 _) (hG.word hwm h3 _) (hG.K hwm) hP hD hS hold.A hc h4 (Nat.le_trans hk hrc) (Nat.le_trans hn hrs) hd (fun q H1 hP1 hD1 hS1 => kk q H1 locs ls hS1 ⟨_, hP1, hD1, sepL_new hs⟩ hls)
/-- Object.<init> -/
theorem j_objI (E : JE X own cc nL d mc ms) {index : Nat} (pc' : Nat) (hd : decode cc pc = .ok (.invokespecial index, 3)) (h1 : W9 (.methodLink own index Lib.objectInit)) (h2 : W9 (.instanceMethod Lib.objectInit)) (h3 : W9 (.code Lib.objectInit ⟨#[0xb1]⟩ 1 none)) (hst : (st.map fun v => v.category).sum + 12 ≤ 46) (hd1 : 1 ≤ d) (hpc : pc + 3 = pc') (kk : J X nL ws k n pc' lv st) : J X nL ws k n pc lv (.ref a :: st) := by
  obtain ⟨⟨l, s0, D, ca⟩, p, e, R, s, m, args, below, meth, c, Q⟩ := X
  obtain ⟨hx, hb, hml, hown, hwm, hold, hlocks, hG, hfr, hlo, hrc, hrs⟩ := E
  subst hpc
  intro H locs ls hS hw hls
  refine W.objInit hx hb hown (hG.word hwm h1 _) (hG.word hwm h2 _) (hG.word hwm h3 _) rfl (by rw [hml]; exact hls.1) rfl hd (by omega) ?_ (W.eq (g2 := F0 m (pc + 3) ls st) rfl (kk H locs ls hS hw hls))
  show 2 * 0 + (st.map fun v => v.category).sum + 12 ≤ R.locals
  omega
/-- constants -/
theorem j_ldcI (E : JE X own cc nL d mc ms) {index : Nat} (v : Int32) (pc' : Nat) (hd : decode cc pc = .ok (.ldc index, 2)) (h1 : W9 (.constant own index v)) (hpc : pc + 2 = pc') (kk : J X nL ws k n pc' lv (.int v :: st)) : J X nL ws k n pc lv st := by
  obtain ⟨⟨l, s0, D, ca⟩, p, e, R, s, m, args, below, meth, c, Q⟩ := X
  obtain ⟨hx, hb, hml, hown, hwm, hold, hlocks, hG, hfr, hlo, hrc, hrs⟩ := E
  subst hpc
  intro H locs ls hS hw hls
  exact lv_ldc hx hb hown (hG.word hwm h1 _) hd (kk H locs ls hS hw hls)
theorem j_ldcL (E : JE X own cc nL d mc ms) {index : Nat} (v : Int64) (pc' : Nat) (hd : decode cc pc = .ok (.ldc2_w index, 3)) (h1 : W9 (.constantLong own index v)) (hpc : pc + 3 = pc') (kk : J X nL ws k n pc' lv (.long v :: st)) : J X nL ws k n pc lv st := by
  obtain ⟨⟨l, s0, D, ca⟩, p, e, R, s, m, args, below, meth, c, Q⟩ := X
  obtain ⟨hx, hb, hml, hown, hwm, hold, hlocks, hG, hfr, hlo, hrc, hrs⟩ := E
  subst hpc
  intro H locs ls hS hw hls
  exact lv_ldc2 hx hb hown (hG.word hwm h1 _) hd (kk H locs ls hS hw hls)
/-- arrays: reading -/
theorem j_bald (E : JE X own cc nL d mc ms) {N : Nat} {f : Nat → Int32} {i : Int32} (pc' : Nat) (hd : decode cc pc = .ok (.baload, 1)) (hp : Pick ws (pt a (aB X.1 N f)) ws1) (hin : vp_in i N) (hpc : pc + 1 = pc') (kk : J X nL ws k n pc' lv (.int (f i.toNatClampNeg) :: st)) : J X nL ws k n pc lv (.int i :: .ref a :: st) := by
  obtain ⟨⟨l, s0, D, ca⟩, p, e, R, s, m, args, below, meth, c, Q⟩ := X
  obtain ⟨hx, hb, hml, hown, hwm, hold, hlocks, hG, hfr, hlo, hrc, hrs⟩ := E
  subst hpc
  intro H locs ls hS hw hl
  obtain ⟨w, hP, hD, hs⟩ := id hw
  obtain ⟨q, hq, -⟩ := pick_at hp hs
  exact va_bald hx hb (hG.K hwm) hP q 0 hq rfl hin hd (kk H locs ls hS hw hl)
theorem j_iald (E : JE X own cc nL d mc ms) {N : Nat} {f : Nat → Int32} {i : Int32} (pc' : Nat) (hd : decode cc pc = .ok (.iaload, 1)) (hp : Pick ws (pt a (aI X.1 N f)) ws1) (hin : vp_in i N) (hpc : pc + 1 = pc') (kk : J X nL ws k n pc' lv (.int (f i.toNatClampNeg) :: st)) : J X nL ws k n pc lv (.int i :: .ref a :: st) := by
  obtain ⟨⟨l, s0, D, ca⟩, p, e, R, s, m, args, below, meth, c, Q⟩ := X
  obtain ⟨hx, hb, hml, hown, hwm, hold, hlocks, hG, hfr, hlo, hrc, hrs⟩ := E
  subst hpc
  intro H locs ls hS hw hl
  obtain ⟨w, hP, hD, hs⟩ := id hw
  obtain ⟨q, hq, -⟩ := pick_at hp hs
  exact va_iald hx hb (hG.K hwm) hP q 1 hq rfl hin hd (kk H locs ls hS hw hl)
theorem j_lald (E : JE X own cc nL d mc ms) {N : Nat} {f : Nat → Int64} {i : Int32} (pc' : Nat) (hd : decode cc pc = .ok (.laload, 1)) (hp : Pick ws (pt a (aJ X.1 N f)) ws1) (hin : vp_in i N) (hpc : pc + 1 = pc') (kk : J X nL ws k n pc' lv (.long (f i.toNatClampNeg) :: st)) : J X nL ws k n pc lv (.int i :: .ref a :: st) := by
  obtain ⟨⟨l, s0, D, ca⟩, p, e, R, s, m, args, below, meth, c, Q⟩ := X
  obtain ⟨hx, hb, hml, hown, hwm, hold, hlocks, hG, hfr, hlo, hrc, hrs⟩ := E
  subst hpc
  intro H locs ls hS hw hl
  obtain ⟨w, hP, hD, hs⟩ := id hw
  obtain ⟨q, hq, -⟩ := pick_at hp hs
  exact va_lald hx hb (hG.K hwm) hP q 2 hq rfl hin hd (kk H locs ls hS hw hl)
theorem j_zald (E : JE X own cc nL d mc ms) {N : Nat} {f : Nat → Int32} {i : Int32} (pc' : Nat) (hd : decode cc pc = .ok (.baload, 1)) (hp : Pick ws (pt a (aZ X.1 N f)) ws1) (hin : vp_in i N) (hpc : pc + 1 = pc') (kk : J X nL ws k n pc' lv (.int (f i.toNatClampNeg) :: st)) : J X nL ws k n pc lv (.int i :: .ref a :: st) := by
  obtain ⟨⟨l, s0, D, ca⟩, p, e, R, s, m, args, below, meth, c, Q⟩ := X
  obtain ⟨hx, hb, hml, hown, hwm, hold, hlocks, hG, hfr, hlo, hrc, hrs⟩ := E
  subst hpc
  intro H locs ls hS hw hl
  obtain ⟨w, hP, hD, hs⟩ := id hw
  obtain ⟨q, hq, -⟩ := pick_at hp hs
  exact va_zald hx hb (hG.K hwm) hP q 3 hq rfl hin hd (kk H locs ls hS hw hl)
theorem j_aald (E : JE X own cc nL d mc ms) {N : Nat} {f : Nat → Option Nat} {i : Int32} (pc' : Nat) (hd : decode cc pc = .ok (.aaload, 1)) (hp : Pick ws (pt a (aO X.1 N f)) ws1) (hin : vp_in i N) (hpc : pc + 1 = pc') (kk : J X nL ws k n pc' lv (va_rf (f i.toNatClampNeg) :: st)) : J X nL ws k n pc lv (.int i :: .ref a :: st) := by
  obtain ⟨⟨l, s0, D, ca⟩, p, e, R, s, m, args, below, meth, c, Q⟩ := X
  obtain ⟨hx, hb, hml, hown, hwm, hold, hlocks, hG, hfr, hlo, hrc, hrs⟩ := E
  subst hpc
  intro H locs ls hS hw hl
  obtain ⟨w, hP, hD, hs⟩ := id hw
  obtain ⟨q, hq, -⟩ := pick_at hp hs
  exact va_aldq hx hb (hG.K hwm) hP q 4 hq rfl hin hd (kk H locs ls hS hw hl)
/-- arrays: length -/
theorem j_alen (E : JE X own cc nL d mc ms) {i : Fin 5} {x : vp_A} (v : Int32) (pc' : Nat) (hd : decode cc pc = .ok (.arraylength, 1)) (hp : Pick ws (pt a (.inl (X.1.2.2.2 i, x))) ws1) (hv : Int32.ofNat x.1 = v) (hpc : pc + 1 = pc') (kk : J X nL ws k n pc' lv (.int v :: st)) : J X nL ws k n pc lv (.ref a :: st) := by
  obtain ⟨⟨l, s0, D, ca⟩, p, e, R, s, m, args, below, meth, c, Q⟩ := X
  obtain ⟨hx, hb, hml, hown, hwm, hold, hlocks, hG, hfr, hlo, hrc, hrs⟩ := E
  subst hpc
  intro H locs ls hS hw hl
  obtain ⟨w, hP, hD, hs⟩ := id hw
  obtain ⟨q, hq, -⟩ := pick_at hp hs
  obtain ⟨ty, ht⟩ : ∃ ty, (tysL ca)[(i : Nat)]? = some (ca i, ty) := by
    match i with
    | 0 => exact ⟨_, rfl⟩
    | 1 => exact ⟨_, rfl⟩
    | 2 => exact ⟨_, rfl⟩
    | 3 => exact ⟨_, rfl⟩
    | 4 => exact ⟨_, rfl⟩
  exact va_alen hx hb (hG.K hwm) hP q i hq ht hv hd (kk H locs ls hS hw hl)
/-- arrays: writing -/
theorem j_bast (E : JE X own cc nL d mc ms) {N : Nat} {f : Nat → Int32} {i x : Int32} (pc' : Nat) (hd : decode cc pc = .ok (.bastore, 1)) (hp : Pick ws (pt a (aB X.1 N f)) ws1) (hin : vp_in i N) (hpc : pc + 1 = pc') (kk : J X nL (pt a (aB X.1 N (upd f i.toNatClampNeg (vp_nar .byte x))) :: ws1) k n pc' lv st) : J X nL ws k n pc lv (.int x :: .int i :: .ref a :: st) := by
  obtain ⟨⟨l, s0, D, ca⟩, p, e, R, s, m, args, below, meth, c, Q⟩ := X
  obtain ⟨hx, hb, hml, hown, hwm, hold, hlocks, hG, hfr, hlo, hrc, hrs⟩ := E
  subst hpc
  intro H locs ls hS hw hl
  obtain ⟨w, hP, hD, hs⟩ := id hw
  obtain ⟨q, hq, hset⟩ := pick_at hp hs
  exact va_bast hx hb (hG.K hwm) hP hD hS q 0 hq rfl hin hd (fun H1 locs1 hP1 hD1 hS1 => kk H1 locs1 ls hS1 ⟨_, hP1, hD1, hset _⟩ hl)
theorem j_iast (E : JE X own cc nL d mc ms) {N : Nat} {f : Nat → Int32} {i x : Int32} (pc' : Nat) (hd : decode cc pc = .ok (.iastore, 1)) (hp : Pick ws (pt a (aI X.1 N f)) ws1) (hin : vp_in i N) (hpc : pc + 1 = pc') (kk : J X nL (pt a (aI X.1 N (upd f i.toNatClampNeg x)) :: ws1) k n pc' lv st) : J X nL ws k n pc lv (.int x :: .int i :: .ref a :: st) := by
  obtain ⟨⟨l, s0, D, ca⟩, p, e, R, s, m, args, below, meth, c, Q⟩ := X
  obtain ⟨hx, hb, hml, hown, hwm, hold, hlocks, hG, hfr, hlo, hrc, hrs⟩ := E
  subst hpc
  intro H locs ls hS hw hl
  obtain ⟨w, hP, hD, hs⟩ := id hw
  obtain ⟨q, hq, hset⟩ := pick_at hp hs
  exact va_iast hx hb (hG.K hwm) hP hD hS q 1 hq rfl hin hd (fun H1 locs1 hP1 hD1 hS1 => kk H1 locs1 ls hS1 ⟨_, hP1, hD1, hset _⟩ hl)
theorem j_last (E : JE X own cc nL d mc ms) {N : Nat} {f : Nat → Int64} {i : Int32} {x : Int64} (pc' : Nat) (hd : decode cc pc = .ok (.lastore, 1)) (hp : Pick ws (pt a (aJ X.1 N f)) ws1) (hin : vp_in i N) (hpc : pc + 1 = pc') (kk : J X nL (pt a (aJ X.1 N (vp_updL f i.toNatClampNeg x)) :: ws1) k n pc' lv st) : J X nL ws k n pc lv (.long x :: .int i :: .ref a :: st) := by
  obtain ⟨⟨l, s0, D, ca⟩, p, e, R, s, m, args, below, meth, c, Q⟩ := X
  obtain ⟨hx, hb, hml, hown, hwm, hold, hlocks, hG, hfr, hlo, hrc, hrs⟩ := E
  subst hpc
  intro H locs ls hS hw hl
  obtain ⟨w, hP, hD, hs⟩ := id hw
  obtain ⟨q, hq, hset⟩ := pick_at hp hs
  exact va_last hx hb (hG.K hwm) hP hD hS q 2 hq rfl hin hd (fun H1 locs1 hP1 hD1 hS1 => kk H1 locs1 ls hS1 ⟨_, hP1, hD1, hset _⟩ hl)
theorem j_zast (E : JE X own cc nL d mc ms) {N : Nat} {f : Nat → Int32} {i x : Int32} (pc' : Nat) (hd : decode cc pc = .ok (.bastore, 1)) (hp : Pick ws (pt a (aZ X.1 N f)) ws1) (hin : vp_in i N) (hpc : pc + 1 = pc') (kk : J X nL (pt a (aZ X.1 N (upd f i.toNatClampNeg (vp_nar .boolean x))) :: ws1) k n pc' lv st) : J X nL ws k n pc lv (.int x :: .int i :: .ref a :: st) := by
  obtain ⟨⟨l, s0, D, ca⟩, p, e, R, s, m, args, below, meth, c, Q⟩ := X
  obtain ⟨hx, hb, hml, hown, hwm, hold, hlocks, hG, hfr, hlo, hrc, hrs⟩ := E
  subst hpc
  intro H locs ls hS hw hl
  obtain ⟨w, hP, hD, hs⟩ := id hw
  obtain ⟨q, hq, hset⟩ := pick_at hp hs
  exact va_zast hx hb (hG.K hwm) hP hD hS q 3 hq rfl hin hd (fun H1 locs1 hP1 hD1 hS1 => kk H1 locs1 ls hS1 ⟨_, hP1, hD1, hset _⟩ hl)
/-- a null into an array of objects -/
theorem j_aastN (E : JE X own cc nL d mc ms) {N : Nat} {f : Nat → Option Nat} {i : Int32} (pc' : Nat) (hd : decode cc pc = .ok (.aastore, 1)) (hp : Pick ws (pt a (aO X.1 N f)) ws1) (hin : vp_in i N) (hpc : pc + 1 = pc') (kk : J X nL (pt a (aO X.1 N (va_up f i.toNatClampNeg none)) :: ws1) k n pc' lv st) : J X nL ws k n pc lv (.null :: .int i :: .ref a :: st) := by
  obtain ⟨⟨l, s0, D, ca⟩, p, e, R, s, m, args, below, meth, c, Q⟩ := X
  obtain ⟨hx, hb, hml, hown, hwm, hold, hlocks, hG, hfr, hlo, hrc, hrs⟩ := E
  subst hpc
  intro H locs ls hS hw hl
  obtain ⟨w, hP, hD, hs⟩ := id hw
  obtain ⟨q, hq, hset⟩ := pick_at hp hs
  exact va_astqN hx hb (hG.K hwm) hP hD hS q 4 hq rfl hin hd (fun H1 locs1 hP1 hD1 hS1 => kk H1 locs1 ls hS1 ⟨_, hP1, hD1, hset _⟩ hl)
end JH
/-- new arrays -/
theorem cell0 {ca cb : ClassId} {s : State} {ty : FieldType} (h1 : va_RA s ca ty) (h2 : va_RA s cb ty) : ca = cb := by
  have h : ∀ c, va_RA s c ty → s.vm.findClass ("[" ++ ty.toString) = some c := by
    intro c h
    cases ty with
    | object C => exact h.choose_spec.choose_spec.2.2.2
    | _ => exact h
  exact Option.some.inj ((h ca h1).symm.trans (h cb h2))
section JN
variable {X : XT} {own : String} {cc : ByteArray} {nL d mc ms : Nat} {ws ws1 : List Asn} {k n pc : Nat} {lv : List (Option Value)} {st : List Value} {a : Nat}
theorem j_newB (E : JE X own cc nL d mc ms) {i : Int32} (N : Nat) (pc' : Nat) (hd : decode cc pc = .ok (.newarray .byte, 2)) (h1 : W9 (.arrayClass .byte)) (hi : ¬ i < 0) (hN : i.toNatClampNeg = N) (hb9 : N ≤ 536870912) (hk : k + 1 ≤ mc) (hn : n + N ≤ ms) (hpc : pc + 2 = pc') (kk : ∀ q : Nat, J X nL (pt q (aB X.1 N (fun _ => 0)) :: ws) (k + 1) (n + N) pc' lv (.ref q :: st)) : J X nL ws k n pc lv (.int i :: st) := by
  obtain ⟨⟨l, s0, D, ca⟩, p, e, R, s, m, args, below, meth, c, Q⟩ := X
  obtain ⟨hx, hb, hml, hown, hwm, hold, hlocks, hG, hfr, hlo, hrc, hrs⟩ := E
  subst hpc
  intro H locs ls hS hw hl
  obtain ⟨w, hP, hD, hs⟩ := id hw
  refine va_newa (atype := .byte) (ty := .byte) (a0 := (N, .inl (fun _ => 0))) hx hb (hG.word hwm h1 _) rfl (hG.K hwm) hP hD hS hold.A (fun _ => rfl) hi hN (by show N * 1 ≤ _; omega) (Nat.le_trans hk hrc) (Nat.le_trans hn hrs) hd (fun q cA H1 hK1 hP1 hD1 hS1 => ?_)
  have e9 : cA = ca 0 := cell0 (hK1.2 5 _ rfl).2 ((hG.K hwm).2 0 _ rfl).2
  subst e9
  exact kk q H1 locs ls hS1 ⟨_, hP1, hD1, sepL_new hs⟩ hl
theorem j_newI (E : JE X own cc nL d mc ms) {i : Int32} (N : Nat) (pc' : Nat) (hd : decode cc pc = .ok (.newarray .int, 2)) (h1 : W9 (.arrayClass .int)) (hi : ¬ i < 0) (hN : i.toNatClampNeg = N) (hb9 : N ≤ 100000000) (hk : k + 1 ≤ mc) (hn : n + N ≤ ms) (hpc : pc + 2 = pc') (kk : ∀ q : Nat, J X nL (pt q (aI X.1 N (fun _ => 0)) :: ws) (k + 1) (n + N) pc' lv (.ref q :: st)) : J X nL ws k n pc lv (.int i :: st) := by
  obtain ⟨⟨l, s0, D, ca⟩, p, e, R, s, m, args, below, meth, c, Q⟩ := X
  obtain ⟨hx, hb, hml, hown, hwm, hold, hlocks, hG, hfr, hlo, hrc, hrs⟩ := E
  subst hpc
  intro H locs ls hS hw hl
  obtain ⟨w, hP, hD, hs⟩ := id hw
  refine va_newa (atype := .int) (ty := .int) (a0 := (N, .inl (fun _ => 0))) hx hb (hG.word hwm h1 _) rfl (hG.K hwm) hP hD hS hold.A (fun _ => rfl) hi hN (by show N * 4 ≤ _; omega) (Nat.le_trans hk hrc) (Nat.le_trans hn hrs) hd (fun q cA H1 hK1 hP1 hD1 hS1 => ?_)
  have e9 : cA = ca 1 := cell0 (hK1.2 5 _ rfl).2 ((hG.K hwm).2 1 _ rfl).2
  subst e9
  exact kk q H1 locs ls hS1 ⟨_, hP1, hD1, sepL_new hs⟩ hl
theorem j_newJ (E : JE X own cc nL d mc ms) {i : Int32} (N : Nat) (pc' : Nat) (hd : decode cc pc = .ok (.newarray .long, 2)) (h1 : W9 (.arrayClass .long)) (hi : ¬ i < 0) (hN : i.toNatClampNeg = N) (hb9 : N ≤ 60000000) (hk : k + 1 ≤ mc) (hn : n + N ≤ ms) (hpc : pc + 2 = pc') (kk : ∀ q : Nat, J X nL (pt q (aJ X.1 N (fun _ => 0)) :: ws) (k + 1) (n + N) pc' lv (.ref q :: st)) : J X nL ws k n pc lv (.int i :: st) := by
  obtain ⟨⟨l, s0, D, ca⟩, p, e, R, s, m, args, below, meth, c, Q⟩ := X
  obtain ⟨hx, hb, hml, hown, hwm, hold, hlocks, hG, hfr, hlo, hrc, hrs⟩ := E
  subst hpc
  intro H locs ls hS hw hl
  obtain ⟨w, hP, hD, hs⟩ := id hw
  refine va_newa (atype := .long) (ty := .long) (a0 := (N, .inr (.inl (fun _ => 0)))) hx hb (hG.word hwm h1 _) rfl (hG.K hwm) hP hD hS hold.A (fun _ => rfl) hi hN (by show N * 8 ≤ _; omega) (Nat.le_trans hk hrc) (Nat.le_trans hn hrs) hd (fun q cA H1 hK1 hP1 hD1 hS1 => ?_)
  have e9 : cA = ca 2 := cell0 (hK1.2 5 _ rfl).2 ((hG.K hwm).2 2 _ rfl).2
  subst e9
  exact kk q H1 locs ls hS1 ⟨_, hP1, hD1, sepL_new hs⟩ hl
theorem j_newZ (E : JE X own cc nL d mc ms) {i : Int32} (N : Nat) (pc' : Nat) (hd : decode cc pc = .ok (.newarray .boolean, 2)) (h1 : W9 (.arrayClass .boolean)) (hi : ¬ i < 0) (hN : i.toNatClampNeg = N) (hb9 : N ≤ 100000000) (hk : k + 1 ≤ mc) (hn : n + N ≤ ms) (hpc : pc + 2 = pc') (kk : ∀ q : Nat, J X nL (pt q (aZ X.1 N (fun _ => 0)) :: ws) (k + 1) (n + N) pc' lv (.ref q :: st)) : J X nL ws k n pc lv (.int i :: st) := by
  obtain ⟨⟨l, s0, D, ca⟩, p, e, R, s, m, args, below, meth, c, Q⟩ := X
  obtain ⟨hx, hb, hml, hown, hwm, hold, hlocks, hG, hfr, hlo, hrc, hrs⟩ := E
  subst hpc
  intro H locs ls hS hw hl
  obtain ⟨w, hP, hD, hs⟩ := id hw
  refine va_newa (atype := .boolean) (ty := .boolean) (a0 := (N, .inl (fun _ => 0))) hx hb (hG.word hwm h1 _) rfl (hG.K hwm) hP hD hS hold.A (fun _ => rfl) hi hN (by show N * 1 ≤ _; omega) (Nat.le_trans hk hrc) (Nat.le_trans hn hrs) hd (fun q cA H1 hK1 hP1 hD1 hS1 => ?_)
  have e9 : cA = ca 3 := cell0 (hK1.2 5 _ rfl).2 ((hG.K hwm).2 3 _ rfl).2
  subst e9
  exact kk q H1 locs ls hS1 ⟨_, hP1, hD1, sepL_new hs⟩ hl
theorem j_newO (E : JE X own cc nL d mc ms) {i : Int32} {index : Nat} (N : Nat) (pc' : Nat) (hd : decode cc pc = .ok (.anewarray index, 3)) (h1 : W9 (.classLink own index "java/lang/Object")) (h2 : .arrayOver (.object "java/lang/Object") ∈ lw_tbl) (hi : ¬ i < 0) (hN : i.toNatClampNeg = N) (hb9 : N ≤ 100000000) (hk : k + 1 ≤ mc) (hn : n + N ≤ ms) (hpc : pc + 3 = pc') (kk : ∀ q : Nat, J X nL (pt q (aO X.1 N (fun _ => none)) :: ws) (k + 1) (n + N) pc' lv (.ref q :: st)) : J X nL ws k n pc lv (.int i :: st) := by
  obtain ⟨⟨l, s0, D, ca⟩, p, e, R, s, m, args, below, meth, c, Q⟩ := X
  obtain ⟨hx, hb, hml, hown, hwm, hold, hlocks, hG, hfr, hlo, hrc, hrs⟩ := E
  subst hpc
  intro H locs ls hS hw hl
  obtain ⟨w, hP, hD, hs⟩ := id hw
  refine va_newq hx hb hown (hG.word hwm h1 _) (va_AO.moved hwm.alike (va_AO.of (hG.2.1 _ h2 #[]))) (hG.K hwm) hP hD hS hold.A hi hN (by show N * 4 ≤ _; omega) (Nat.le_trans hk hrc) (Nat.le_trans hn hrs) hd (fun q cA H1 hK1 hP1 hD1 hS1 => ?_)
  have e9 : cA = ca 4 := cell0 (hK1.2 5 _ rfl).2 ((hG.K hwm).2 4 _ rfl).2
  subst e9
  exact kk q H1 locs ls hS1 ⟨_, hP1, hD1, sepL_new hs⟩ hl
end JN
end
section
/-! calls, ends, throws, over the parts of a world -/
def lEa : List Value → List (Option Value)
  | [] => []
  | .long x :: vs => some (.long x) :: none :: lEa vs
  | .double x :: vs => some (.double x) :: none :: lEa vs
  | v :: vs => some v :: lEa vs
def lE (av : List Value) (nL : Nat) : List (Option Value) := lEa av ++ List.replicate (nL - (lEa av).length) none
theorem lEa_args : ∀ (av : List Value) (i j : Nat) (v : Value), (lEa av)[j]? = some (some v) → (i + j, v) ∈ lv_args i av
  | [], i, j, v, h => by simp [lEa] at h
  | x :: vs, i, j, v, h => by
    have one : ∀ (hc : x.category = 1) (hE : lEa (x :: vs) = some x :: lEa vs), (i + j, v) ∈ lv_args i (x :: vs) := by
      intro hc hE
      rw [hE] at h
      unfold lv_args
      rw [if_neg (by omega)]
      cases j with
      | zero =>
        rw [List.getElem?_cons_zero] at h
        cases h
        exact List.mem_cons_self
      | succ j =>
        rw [List.getElem?_cons_succ] at h
        have := lEa_args vs (i + 1) j v h
        rw [show i + 1 + j = i + (j + 1) by omega] at this
        exact List.mem_cons_of_mem _ this
    have two : ∀ (hc : x.category = 2) (hE : lEa (x :: vs) = some x :: none :: lEa vs), (i + j, v) ∈ lv_args i (x :: vs) := by
      intro hc hE
      rw [hE] at h
      unfold lv_args
      rw [if_pos hc]
      match j, h with
      | 0, h =>
        rw [List.getElem?_cons_zero] at h
        cases h
        exact List.mem_cons_self
      | 1, h =>
        simp at h
      | j + 2, h =>
        rw [List.getElem?_cons_succ, List.getElem?_cons_succ] at h
        have := lEa_args vs (i + 2) j v h
        rw [show i + 2 + j = i + (j + 2) by omega] at this
        exact List.mem_cons_of_mem _ this
    cases x <;> first | exact one rfl rfl | exact two rfl rfl
theorem lE_has {av : List Value} {nL : Nat} {ls : Array Slot} (h : lv_has ls nL (lv_args 0 av)) : lHas ls nL (lE av nL) := by
  refine lHas.of h fun i v hi => ?_
  unfold lE at hi
  by_cases hl : i < (lEa av).length
  · rw [List.getElem?_append_left hl] at hi
    have := lEa_args av 0 i v hi
    rw [Nat.zero_add] at this
    exact this
  · rw [List.getElem?_append_right (by omega)] at hi
    have h2 := List.mem_of_getElem? hi
    have h3 := List.eq_of_mem_replicate h2
    cases h3
theorem PcO_blind {g : GT} {av : List Value} {pre : List Asn} {F : Asn} : FrameBlind (PcO g av pre F) := fun _ _ _ _ q => q
/-- a method's code, its words -/
def CB (own : String) (index : Nat) (M : MD) (na : Nat) : Prop := W9 (.initialized M.1.cls) ∧ W9 (.code M.1 M.2.1 M.2.2.1 M.2.2.2) ∧ (M.1.cls ≠ "java/lang/invoke/MethodHandle" ∧ M.1.cls ≠ "java/lang/invoke/VarHandle") ∧ (parseMethodDescriptor M.1.desc).map (fun d => d.parameters.length) = some na ∧ M.2.2.1 ≤ 27
def CV (own : String) (index : Nat) (C : String) (M : MD) (na : Nat) : Prop := CB own index M na ∧ W9 (.methodLink own index M.1) ∧ W9 (.instanceMethod M.1) ∧ W9 (.selects C M.1 M.1)
def CS (own : String) (index : Nat) (M : MD) (na : Nat) : Prop := CB own index M na ∧ W9 (.methodLink own index M.1) ∧ W9 (.static M.1)
def CI (own : String) (index : Nat) (M : MD) (na : Nat) : Prop := CB own index M na ∧ W9 (.methodLink own index M.1) ∧ W9 (.instanceMethod M.1) ∧ M.1.name = "<init>" ∧ M.2.2.2 = none
def CIn (own : String) (index : Nat) (M : MD) (na : Nat) : Prop := ∃ host : String, CB own index M na ∧ (.methodLinkNest own index M.1 host) ∈ lw_tbl ∧ W9 (.instanceMethod M.1) ∧ M.1.name = "<init>" ∧ M.2.2.2 = none
section RB
variable {p : Program} {l : Launch} {e : Env} {R : Room} {s s0 : State} {D : va_G} {ca : Nat → ClassId} {m : MethodId} {args : Array Value} {below : List Frame} {meth : Method} {c : Code} {H : Heap} {locs : List Loc} {k n pc mc1 ms1 : Nat} {ls : Array Slot} {st0 rest : List Value} {Q : State → Prop} {fr : List Asn} {po : PoT} {px : PxT} {a : Array Value}
theorem run_J (hr : vx_Run p l e R s m args below meth c H locs k n mc1 ms1 (F0 m pc ls st0) rest (QcO (l, s0, D, ca) po (sepL fr) a) (XcO (l, s0, D, ca) px (sepL fr)) (A9 s0)) (hS : va_S (A9 s0) s.heap H locs)
    (kk : ∀ r dc ds ws', po r dc ds ws' → ∀ H1 locs1, va_S (A9 s0) s.heap H1 locs1 → Wld s0 D (ws' ++ fr) H1 → W p l e R s m args below meth c H1 locs1 (k + dc) (n + ds) Q (F0 m (pc + 3) ls (r.toList ++ rest)))
    (kx : ∀ E dc ds ws', px E dc ds ws' → ∀ H1 locs1 q ce, va_S (A9 s0) s.heap H1 locs1 → Wld s0 D (ws' ++ fr) H1 → H1[q]? = some ce → ce.vm = .none → s.vm.findClass E = some ce.cls → vx_W p l e R s m args below meth c H1 locs1 (k + dc) (n + ds) Q (F0 m pc ls rest) q) : W p l e R s m args below meth c H locs k n Q (F0 m pc ls st0) := by
  refine W.know fun h1 h2 => ?_
  intro T hT X
  rcases hr T hT X with ⟨v, st₀, t, T', L, h0, X', hL, e1, e2, ⟨⟨r, dc, ds, ws', hv, hpo, hW, z1, z2⟩, hF⟩, st⟩ | ⟨q, st₀, t, T', L, E, ce, h0, X', hL, e1, e2, ⟨⟨dc, ds, ws', hpx, hW, z1, z2⟩, hF⟩, hce, hcv, hcl, st⟩
  · cases hv
    obtain ⟨k1, k2, k3⟩ := vx_keep h0 e1 hS (fun q _ h => h) (fun q h => h) hL hF
    rw [h0, ← e1] at z1 z2
    rw [← e1] at hW
    obtain ⟨t2, a1, b1⟩ := (W.tight (k := k + mc1) (n := n + ms1) (by omega) (by omega) (kk v dc ds ws' hpo T'.heap (locs ++ L) k3 (hW.mono fun w h => sepL_unpack h))) T' rfl X'
    exact ⟨t2, st t2 a1, b1⟩
  · obtain ⟨k1, k2, k3⟩ := vx_keep h0 e1 hS (fun q _ h => h) (fun q h => h) hL hF
    rw [h0, ← e1] at z1 z2
    rw [← e1] at hW
    obtain ⟨t2, a1, b1⟩ := (vx_W.tight (k := k + mc1) (n := n + ms1) (by omega) (by omega) (kx E dc ds ws' hpx T'.heap (locs ++ L) q ce k3 (hW.mono fun w h => sepL_unpack h) (by rw [e1]; exact hce) hcv hcl)) T' rfl X'
    exact ⟨t2, st.trans a1, b1⟩
theorem vx_Run.of {g : JFrame} {Qa : State → Outcome → State → Prop} {XC : String → State → State → Prop} {free : Addr → Prop} (h : va_Run p l e R s m args below meth c H locs k n mc1 ms1 g rest Qa free) : vx_Run p l e R s m args below meth c H locs k n mc1 ms1 g rest Qa XC free := fun T hT X => Or.inl (h T hT X)
end RB
theorem Ctr.met {g : GT} {M : MD} {d mc ms : Nat} {av : List Value} {pre : List Asn} {po : PoT} (h : Ctr g M d mc ms av pre po noX) (F : Asn) : Met g.1 M.1 [.code M.1 M.2.1 M.2.2.1 M.2.2.2] (rmD d mc ms) (PcO g av pre F) (QcO g po F) mc ms (A9 g.2.1) := by
  intro p e h1 h2 h3 s m args below h4 h5 h6 h7
  obtain ⟨n, o, g1, g2, g3, g4⟩ := h F p e h1 h2 h3 s m args below h4 h5 h6 h7
  refine ⟨n, o, g1, g2, g3, ?_⟩
  rcases g4 with g4 | ⟨q, -, E, ce, L, ⟨⟨dc, ds, ws', hx, -⟩, -⟩, -⟩
  · exact g4
  · exact hx.elim
def Rcv (pre : List Asn) (a ci : Nat) : Prop := ∀ w, sepL pre w → ∃ fs : List Value, (a, Sum.inr (ci, fs)) ∈ w
theorem rcv_0 {P : Asn} {L : List Asn} {a ci : Nat} (h : ∀ w, P w → ∃ fs : List Value, (a, Sum.inr (ci, fs)) ∈ w) : Rcv (P :: L) a ci := by
  rintro w ⟨w1, w2, hp, h1, h2⟩
  obtain ⟨fs, hf⟩ := h w1 h1
  exact ⟨fs, hp.symm.subset (List.mem_append_left _ hf)⟩
theorem rcv_pt {L : List Asn} {a ci : Nat} {fs : List Value} : Rcv (pt a (.inr (ci, fs)) :: L) a ci := rcv_0 fun w h => ⟨fs, by rw [show w = [(a, .inr (ci, fs))] from h]; exact List.mem_cons_self⟩
/-- a contract of an instance method, on an object of class ci -/
def CtrV (g : GT) (M : MD) (ci d mc ms : Nat) (a : Nat) (As : List Value) (pre : List Asn) (po : PoT) (px : PxT) : Prop := Rcv pre a ci ∧ Ctr g M d mc ms (.ref a :: As) pre po px
section JC
variable {X : XT} {own : String} {cc : ByteArray} {nL d mc ms : Nat} {ws fr pre : List Asn} {k n pc : Nat} {lv : List (Option Value)} {st rest : List Value} {a : Nat} {M : MD} {ci d1 mc1 ms1 na index : Nat} {As : List Value} {po : PoT} {px : PxT}
theorem CB.of {g : GT} (hG : GLB g) {s : State} (hwm : g.2.1.WarmedH s.vm) {args : Array Value} {R : Room} (h : CB own index M na) (hl : (Cond.methodLink own index M.1).before args s = true) (hfr : d ≤ R.frames) (hlo : 46 * d ≤ R.locals) (hd : d1 + 1 ≤ d) : CallB R s args own index M.1 M.2.1 M.2.2.1 M.2.2.2 [.code M.1 M.2.1 M.2.2.1 M.2.2.2] (rmD d1 mc1 ms1) mc1 ms1 na := by
  obtain ⟨h1, h2, h3, h4, h5⟩ := h
  refine ⟨rfl, rfl, by show d1 + 1 ≤ _; omega, by show 8 + (M.2.2.1 + 11) + 46 * d1 ≤ _; omega, ?_, List.mem_cons_self, hG.word hwm h2 _, hG.word hwm h1 _, h3, fun sig h => ?_, hl⟩
  · intro w hw a' U hU
    rcases List.mem_singleton.mp hw with rfl
    exact hG.word (hwm.trans hU) h2 _
  · rw [h] at h4
    exact (Option.some.inj h4).symm
theorem j_callVX (E : JE X own cc nL d mc ms) (K : CtrV X.1 M ci d1 mc1 ms1 a As pre po px) (pc' : Nat) (hd : decode cc pc = .ok (.invokevirtual index, 3)) (C : String) (T : u_T) (N : Nat) (cv : CV own index C M na) (hci : clsL[ci]? = some (C, T, N)) (hna : As.length = na) (hst : st = As.reverse ++ .ref a :: rest) (sel : Sel ws pre fr) (hd1 : d1 + 1 ≤ d) (hmc : k + mc1 ≤ mc) (hms : n + ms1 ≤ ms) (hrest : (rest.map fun v => v.category).sum ≤ 8) (hpc : pc + 3 = pc')
    (kk : ∀ r dc ds ws', po r dc ds ws' → J X nL (ws' ++ fr) (k + dc) (n + ds) pc' lv (r.toList ++ rest)) (kx : ∀ E dc ds ws', px E dc ds ws' → JX X nL (ws' ++ fr) (k + dc) (n + ds) pc lv E) : J X nL ws k n pc lv st := by
  obtain ⟨⟨l, s0, D, ca⟩, p, e, R, s, m, args, below, meth, c, Q⟩ := X
  obtain ⟨hx, hb, hml, hown, hwm, hold, hlocks, hG, hfr, hlo, hrc, hrs⟩ := E
  subst hpc
  obtain ⟨hrcv, K⟩ := K
  obtain ⟨hB, hl1, hi1, hs1⟩ := cv
  intro H locs ls hS hw hls
  have hH : Old s0 H := hold.S hS
  have hpk : Wld s0 D (pre ++ [sepL fr]) H := hw.mono fun w h => sepL_pack (sel w h)
  have hre : ∃ cellB : Cell, H[a]? = some cellB ∧ cellB.vm.isStatics = false ∧ s.vm.findClass C = some cellB.cls := by
    obtain ⟨w, hP, -, hs⟩ := hw
    obtain ⟨w1, w2, hp, h1, -⟩ := sel w hs
    obtain ⟨fs, hfs⟩ := hrcv w1 h1
    obtain ⟨q, hq⟩ := List.getElem?_of_mem (hp.symm.subset (List.mem_append_left _ hfs))
    exact va_recv (hG.K hwm) hP hci hq
  refine run_J (vx_runV (rest := rest) (As := As) (b := a) (nL := nL) (Ts := []) ⟨hx, hb, hml, hown, fun _ h => absurd h List.not_mem_nil⟩ (K (sepL fr)) ⟨hB.of hG hwm (hG.word hwm hl1 _) hfr hlo hd1, hG.word hwm hi1 _, hG.word hwm hs1 _⟩ ⟨PcO_blind, hre, fun U hU hW => ⟨rfl, hwm.trans hW, by rw [hU]; exact hH, by rw [hU]; exact hpk⟩⟩ rfl hna hls.1 hst (lv_room hrest) hd ⟨Nat.le_trans hmc hrc, Nat.le_trans hms hrs⟩) hS ?_ ?_
  · intro r dc ds ws' hpo H1 locs1 hS1 hw1
    exact kk r dc ds ws' hpo H1 locs1 ls hS1 hw1 hls
  · intro E dc ds ws' hpo H1 locs1 q ce hS1 hw1 h1 h2 h3
    exact kx E dc ds ws' hpo H1 locs1 ls q ce rest hS1 hw1 hls h1 h2 h3
theorem j_callV (E : JE X own cc nL d mc ms) (K : CtrV X.1 M ci d1 mc1 ms1 a As pre po noX) (pc' : Nat) (hd : decode cc pc = .ok (.invokevirtual index, 3)) (C : String) (T : u_T) (N : Nat) (cv : CV own index C M na) (hci : clsL[ci]? = some (C, T, N)) (hna : As.length = na) (hst : st = As.reverse ++ .ref a :: rest) (sel : Sel ws pre fr) (hd1 : d1 + 1 ≤ d) (hmc : k + mc1 ≤ mc) (hms : n + ms1 ≤ ms) (hrest : (rest.map fun v => v.category).sum ≤ 8) (hpc : pc + 3 = pc')
    (kk : ∀ r dc ds ws', po r dc ds ws' → J X nL (ws' ++ fr) (k + dc) (n + ds) pc' lv (r.toList ++ rest)) : J X nL ws k n pc lv st :=
  j_callVX E K pc' hd C T N cv hci hna hst sel hd1 hmc hms hrest hpc kk (fun _ _ _ _ h => h.elim)
theorem j_callSX (E : JE X own cc nL d mc ms) (K : Ctr X.1 M d1 mc1 ms1 As pre po px) (pc' : Nat) (hd : decode cc pc = .ok (.invokestatic index, 3)) (cv : CS own index M na) (hna : As.length = na) (hst : st = As.reverse ++ rest) (sel : Sel ws pre fr) (hd1 : d1 + 1 ≤ d) (hmc : k + mc1 ≤ mc) (hms : n + ms1 ≤ ms) (hrest : (rest.map fun v => v.category).sum ≤ 8) (hpc : pc + 3 = pc')
    (kk : ∀ r dc ds ws', po r dc ds ws' → J X nL (ws' ++ fr) (k + dc) (n + ds) pc' lv (r.toList ++ rest)) (kx : ∀ E dc ds ws', px E dc ds ws' → JX X nL (ws' ++ fr) (k + dc) (n + ds) pc lv E) : J X nL ws k n pc lv st := by
  obtain ⟨⟨l, s0, D, ca⟩, p, e, R, s, m, args, below, meth, c, Q⟩ := X
  obtain ⟨hx, hb, hml, hown, hwm, hold, hlocks, hG, hfr, hlo, hrc, hrs⟩ := E
  subst hpc
  obtain ⟨hB, hl1, hs1⟩ := cv
  intro H locs ls hS hw hls
  have hH : Old s0 H := hold.S hS
  have hpk : Wld s0 D (pre ++ [sepL fr]) H := hw.mono fun w h => sepL_pack (sel w h)
  refine run_J (vx_runS (rest := rest) (As := As) (nL := nL) (Ts := []) ⟨hx, hb, hml, hown, fun _ h => absurd h List.not_mem_nil⟩ (K (sepL fr)) ⟨hB.of hG hwm (hG.word hwm hl1 _) hfr hlo hd1, hG.word hwm hs1 _⟩ ⟨PcO_blind, fun U hU hW => ⟨rfl, hwm.trans hW, by rw [hU]; exact hH, by rw [hU]; exact hpk⟩⟩ rfl hna hls.1 hst (lv_room hrest) hd ⟨Nat.le_trans hmc hrc, Nat.le_trans hms hrs⟩) hS ?_ ?_
  · intro r dc ds ws' hpo H1 locs1 hS1 hw1
    exact kk r dc ds ws' hpo H1 locs1 ls hS1 hw1 hls
  · intro E dc ds ws' hpo H1 locs1 q ce hS1 hw1 h1 h2 h3
    exact kx E dc ds ws' hpo H1 locs1 ls q ce rest hS1 hw1 hls h1 h2 h3
theorem j_callS (E : JE X own cc nL d mc ms) (K : Ctr X.1 M d1 mc1 ms1 As pre po noX) (pc' : Nat) (hd : decode cc pc = .ok (.invokestatic index, 3)) (cv : CS own index M na) (hna : As.length = na) (hst : st = As.reverse ++ rest) (sel : Sel ws pre fr) (hd1 : d1 + 1 ≤ d) (hmc : k + mc1 ≤ mc) (hms : n + ms1 ≤ ms) (hrest : (rest.map fun v => v.category).sum ≤ 8) (hpc : pc + 3 = pc')
    (kk : ∀ r dc ds ws', po r dc ds ws' → J X nL (ws' ++ fr) (k + dc) (n + ds) pc' lv (r.toList ++ rest)) : J X nL ws k n pc lv st :=
  j_callSX E K pc' hd cv hna hst sel hd1 hmc hms hrest hpc kk (fun _ _ _ _ h => h.elim)
theorem j_callI (E : JE X own cc nL d mc ms) (K : Ctr X.1 M d1 mc1 ms1 (.ref a :: As) pre po noX) (pc' : Nat) (hd : decode cc pc = .ok (.invokespecial index, 3)) (cv : CI own index M na) (hna : As.length = na) (hst : st = As.reverse ++ .ref a :: rest) (sel : Sel ws pre fr) (hd1 : d1 + 1 ≤ d) (hmc : k + mc1 ≤ mc) (hms : n + ms1 ≤ ms) (hrest : (rest.map fun v => v.category).sum ≤ 8) (hpc : pc + 3 = pc')
    (kk : ∀ r dc ds ws', po r dc ds ws' → J X nL (ws' ++ fr) (k + dc) (n + ds) pc' lv (r.toList ++ rest)) : J X nL ws k n pc lv st := by
  obtain ⟨⟨l, s0, D, ca⟩, p, e, R, s, m, args, below, meth, c, Q⟩ := X
  obtain ⟨hx, hb, hml, hown, hwm, hold, hlocks, hG, hfr, hlo, hrc, hrs⟩ := E
  subst hpc
  obtain ⟨hB, hl1, hi1, hnm, hret⟩ := cv
  intro H locs ls hS hw hls
  have hH : Old s0 H := hold.S hS
  have hpk : Wld s0 D (pre ++ [sepL fr]) H := hw.mono fun w h => sepL_pack (sel w h)
  have hM := K.met (sepL fr)
  have hCB := hB.of hG (s := s) (args := args) (R := R) (mc1 := mc1) (ms1 := ms1) hwm (hG.word hwm hl1 _) hfr hlo hd1
  rw [hret] at hM hCB
  refine run_J (px := noX) (vx_Run.of (va_runI (rest := rest) (As := As) (b := a) (nL := nL) (Ts := []) ⟨hx, hb, hml, hown, fun _ h => absurd h List.not_mem_nil⟩ hM ⟨hCB, hnm, hG.word hwm hi1 _⟩ ⟨PcO_blind, fun U hU hW => ⟨rfl, hwm.trans hW, by rw [hU]; exact hH, by rw [hU]; exact hpk⟩⟩ rfl hna hls.1 hst (lv_room hrest) hd ⟨Nat.le_trans hmc hrc, Nat.le_trans hms hrs⟩)) hS ?_ (fun _ _ _ _ h => h.elim)
  intro r dc ds ws' hpo H1 locs1 hS1 hw1
  exact kk r dc ds ws' hpo H1 locs1 ls hS1 hw1 hls
theorem j_callIn (E : JE X own cc nL d mc ms) (K : Ctr X.1 M d1 mc1 ms1 (.ref a :: As) pre po noX) (pc' : Nat) (hd : decode cc pc = .ok (.invokespecial index, 3)) (cv : CIn own index M na) (hna : As.length = na) (hst : st = As.reverse ++ .ref a :: rest) (sel : Sel ws pre fr) (hd1 : d1 + 1 ≤ d) (hmc : k + mc1 ≤ mc) (hms : n + ms1 ≤ ms) (hrest : (rest.map fun v => v.category).sum ≤ 8) (hpc : pc + 3 = pc')
    (kk : ∀ r dc ds ws', po r dc ds ws' → J X nL (ws' ++ fr) (k + dc) (n + ds) pc' lv (r.toList ++ rest)) : J X nL ws k n pc lv st := by
  obtain ⟨⟨l, s0, D, ca⟩, p, e, R, s, m, args, below, meth, c, Q⟩ := X
  obtain ⟨hx, hb, hml, hown, hwm, hold, hlocks, hG, hfr, hlo, hrc, hrs⟩ := E
  subst hpc
  obtain ⟨host, ⟨h1, h2, h3, h4, h5⟩, hl1, hi1, hnm, hret⟩ := cv
  intro H locs ls hS hw hls
  have hH : Old s0 H := hold.S hS
  have hpk : Wld s0 D (pre ++ [sepL fr]) H := hw.mono fun w h => sepL_pack (sel w h)
  have hM := K.met (sepL fr)
  rw [hret] at hM h2
  refine run_J (px := noX) (vx_Run.of (va_runIN (host := host) (bytes := M.2.1) (maxL := M.2.2.1) (ws := [.code M.1 M.2.1 M.2.2.1 none]) (rest := rest) (As := As) (b := a) (nL := nL) (n := na) (Ts := [.code M.1 M.2.1 M.2.2.1 none]) ⟨hx, hb, hml, hown, fun w hw => by rcases List.mem_singleton.mp hw with rfl; exact hG.word hwm h2 _⟩ hM ?_ ⟨PcO_blind, fun U hU hW => ⟨rfl, hwm.trans hW, by rw [hU]; exact hH, by rw [hU]; exact hpk⟩⟩ rfl hna hls.1 hst (lv_room hrest) hd ⟨Nat.le_trans hmc hrc, Nat.le_trans hms hrs⟩)) hS ?_ (fun _ _ _ _ h => h.elim)
  · refine ⟨⟨⟨rfl, rfl, by show d1 + 1 ≤ _; omega, by show 8 + (M.2.2.1 + 11) + 46 * d1 ≤ _; omega, ?_, List.mem_cons_self⟩, hG.word hwm h2 _, hG.word hwm h1 _, h3, fun sig h => ?_, va_Nw.use rfl (va_Nw.warmM hwm (hG.2.1 _ hl1 #[]))⟩, hnm, hG.word hwm hi1 _⟩
    · intro w hw a' U hU
      rcases List.mem_singleton.mp hw with rfl
      exact hG.word (hwm.trans hU) h2 _
    · rw [h] at h4
      exact (Option.some.inj h4).symm
  · intro r dc ds ws' hpo H1 locs1 hS1 hw1
    exact kk r dc ds ws' hpo H1 locs1 ls hS1 hw1 hls
end JC
end
section
/-! bodies and their ends -/
theorem ctr_intro {g : GT} {M : MD} {d mc ms : Nat} {av : List Value} {pre : List Asn} {po : PoT} {px : PxT} (hG : GLB g) (hy : plainName M.1.cls = true) (hlen : (lg_sl av).length ≤ M.2.2.1)
    (body : ∀ (X : XT) (F : Asn), X.1 = g → JE X M.1.cls M.2.1 M.2.2.1 d mc ms → JB X M.2.2.2 po px F mc ms → (M.1.name = "<init>" → JIn X) → (∀ x ∈ X.2.2.2.2.2.2.2.2.2.1.exceptionTable.toList, False) → J X M.2.2.1 (pre ++ [F]) 0 0 0 (lE av M.2.2.1) []) : Ctr g M d mc ms av pre po px := by
  intro F
  refine vx_ofW (cc := M.2.1) (maxL := M.2.2.1) (ret := M.2.2.2) hy rfl ?_
  intro p e s m args below meth c s₁ B hml ht hv
  obtain ⟨rfl, hwm, hold, hw⟩ := hv
  have hown : s.vm.findClass M.1.cls = some m.cls := findClass_of_methodNamed B.named
  rw [lg_entry_eq]
  exact body (g, p, e, rmD d mc ms, s, m, av.toArray, below, meth, c, _) F rfl ⟨B.exec, B.bytes, hml, hown, hwm, hold, B.notSynchronized, hG, Nat.le_refl _, Nat.le_refl _, Nat.le_refl _, Nat.le_refl _⟩ ⟨B.returns, rfl⟩ (fun h => ((name_of_methodNamed B.named B.method).1).trans h) ht s.heap [] _ va_S.rf hw (lE_has (lv_entry av hlen))
section JT
variable {X : XT} {own : String} {cc : ByteArray} {nL d mc ms : Nat} {ws fr pre ws1 : List Asn} {k n pc : Nat} {lv : List (Option Value)} {st rest : List Value} {a : Nat} {po : PoT} {px : PxT} {F : Asn} {ret : Option FieldType}
/-- the world is seen as another -/
theorem j_mono {ws' : List Asn} (h : ∀ w, sepL ws w → sepL ws' w) (kk : J X nL ws' k n pc lv st) : J X nL ws k n pc lv st := by
  obtain ⟨⟨l, s0, D, ca⟩, p, e, R, s, m, args, below, meth, c, Q⟩ := X
  intro H locs ls hS hw hl
  exact kk H locs ls hS (hw.mono h) hl
theorem j_sel (h : Sel ws pre fr) (kk : J X nL pre k n pc lv st) : J X nL ws k n pc lv st := by
  obtain ⟨⟨l, s0, D, ca⟩, p, e, R, s, m, args, below, meth, c, Q⟩ := X
  intro H locs ls hS hw hl
  exact kk H locs ls hS (hw.sel h) hl
/-- a part is opened: what it says, and what it is made of -/
theorem j_open {P : Asn} {α : Type} {φ : α → Prop} {qs : α → List Asn} (hp : Pick ws P ws1) (hP : ∀ w, P w → ∃ x, φ x ∧ sepL (qs x) w) (kk : ∀ x, φ x → J X nL (qs x ++ ws1) k n pc lv st) : J X nL ws k n pc lv st := by
  obtain ⟨⟨l, s0, D, ca⟩, p, e, R, s, m, args, below, meth, c, Q⟩ := X
  intro H locs ls hS hw hl
  obtain ⟨w, h1, h2, h3⟩ := hw
  obtain ⟨w1, w2, g1, g2, g3⟩ := hp w h3
  obtain ⟨x, hx, hq⟩ := hP w1 g2
  exact kk x hx H locs ls hS ⟨w, h1, h2, sepL_join ⟨w1, w2, g1, hq, g3⟩⟩ hl
/-- what the world says, without opening it -/
theorem j_know {φ : Prop} (hP : ∀ w, sepL ws w → φ) (kk : φ → J X nL ws k n pc lv st) : J X nL ws k n pc lv st := by
  obtain ⟨⟨l, s0, D, ca⟩, p, e, R, s, m, args, below, meth, c, Q⟩ := X
  intro H locs ls hS hw hl
  obtain ⟨w, h1, h2, h3⟩ := id hw
  exact kk (hP w h3) H locs ls hS hw hl
/-- parts are put together -/
theorem j_close {P : Asn} {qs : List Asn} (hs : Sel ws qs ws1) (hP : ∀ w, sepL qs w → P w) (kk : J X nL (P :: ws1) k n pc lv st) : J X nL ws k n pc lv st := by
  refine j_mono (fun w h => ?_) kk
  obtain ⟨w1, w2, g1, g2, g3⟩ := hs w h
  exact ⟨w1, w2, g1, hP w1 g2, g3⟩
theorem j_less {lv' : List (Option Value)} (h : ∀ (i : Nat) (v : Value), lv'[i]? = some (some v) → lv[i]? = some (some v)) (kk : J X nL ws k n pc lv' st) : J X nL ws k n pc lv st := by
  obtain ⟨⟨l, s0, D, ca⟩, p, e, R, s, m, args, below, meth, c, Q⟩ := X
  intro H locs ls hS hw hl
  exact kk H locs ls hS hw (hl.less h)
theorem j_forget (i : Nat) (kk : J X nL ws k n pc (lv.set i none) st) : J X nL ws k n pc lv st := by
  refine j_less (fun j v h => ?_) kk
  by_cases hij : i = j
  · subst hij
    have hl := (List.getElem?_eq_some_iff.mp h).1
    rw [List.length_set] at hl
    rw [List.getElem?_set_self hl] at h
    cases h
  · rw [List.getElem?_set_ne hij] at h
    exact h
/-- more room used -/
theorem j_widen {k' n' : Nat} (h1 : k ≤ k') (h2 : n ≤ n') (kk : J X nL ws k' n' pc lv st) : J X nL ws k n pc lv st := by
  obtain ⟨⟨l, s0, D, ca⟩, p, e, R, s, m, args, below, meth, c, Q⟩ := X
  intro H locs ls hS hw hl
  exact W.widen h1 h2 (kk H locs ls hS hw hl)
theorem j_topi {x : Int32} (kk : ∀ y : Int32, y = x → J X nL ws k n pc lv (.int y :: st)) : J X nL ws k n pc lv (.int x :: st) := kk x rfl
theorem j_topl {x : Int64} (kk : ∀ y : Int64, y = x → J X nL ws k n pc lv (.long y :: st)) : J X nL ws k n pc lv (.long x :: st) := kk x rfl
theorem j_eqi {x y : Int32} (h : x = y) (kk : J X nL ws k n pc lv (.int y :: st)) : J X nL ws k n pc lv (.int x :: st) := h ▸ kk
theorem j_eql {x y : Int64} (h : x = y) (kk : J X nL ws k n pc lv (.long y :: st)) : J X nL ws k n pc lv (.long x :: st) := h ▸ kk
theorem j_eqv {x y : Value} (h : x = y) (kk : J X nL ws k n pc lv (y :: st)) : J X nL ws k n pc lv (x :: st) := h ▸ kk
/-- the end's Q -/
theorem QcO_of {l : Launch} {s0 s t : State} {D : va_G} {ca : Nat → ClassId} {H : Heap} {locs : List Loc} {r : Option Value} {dc ds : Nat} {ws' : List Asn} {a : Array Value} (hpo : po r dc ds ws') (hs : Sel ws (ws' ++ [F]) fr) (hk : k ≤ dc) (hn : n ≤ ds) (hS : va_S (A9 s0) s.heap H locs) (hw : Wld s0 D ws H) (h1 : H.size ≤ s.heap.size + k) (h2 : slotSum H ≤ slotSum s.heap + n) (ht : t.heap = H) : QcO (l, s0, D, ca) po F a s (.returned r) t :=
  ⟨⟨r, dc, ds, ws', rfl, hpo, by rw [ht]; exact hw.sel hs, by rw [ht]; omega, by rw [ht]; omega⟩, hS.F ht⟩
theorem j_iret (E : JE X own cc nL d mc ms) (B : JB X ret po px F mc ms) (hret : ret = some .int) {v : Int32} (dc ds : Nat) {ws' : List Asn} (hd : decode cc pc = .ok (.ireturn, 1)) (hpo : po (some (.int v)) dc ds ws') (hs : Sel ws (ws' ++ [F]) fr) (hk : k ≤ dc) (hn : n ≤ ds) (hmk : k ≤ mc) (hmn : n ≤ ms) : J X nL ws k n pc lv [.int v] := by
  obtain ⟨⟨l, s0, D, ca⟩, p, e, R, s, m, args, below, meth, c, Q⟩ := X
  obtain ⟨hx, hb, hml, hown, hwm, hold, hlocks, hG, hfr, hlo, hrc, hrs⟩ := E
  obtain ⟨hr, rfl⟩ := B
  subst hret
  intro H locs ls hS hw hl
  refine W.know fun h1 h2 => W.widen hmk hmn (vx_ret ?_)
  exact W.iret hx hb hr (fun t ht hW => QcO_of hpo hs hk hn hS hw h1 h2 ht) hS.2.2 hd
theorem j_zret (E : JE X own cc nL d mc ms) (B : JB X ret po px F mc ms) (hret : ret = some .boolean) {v : Int32} (hv : v = 0 ∨ v = 1) (dc ds : Nat) {ws' : List Asn} (hd : decode cc pc = .ok (.ireturn, 1)) (hpo : po (some (.int v)) dc ds ws') (hs : Sel ws (ws' ++ [F]) fr) (hk : k ≤ dc) (hn : n ≤ ds) (hmk : k ≤ mc) (hmn : n ≤ ms) : J X nL ws k n pc lv [.int v] := by
  obtain ⟨⟨l, s0, D, ca⟩, p, e, R, s, m, args, below, meth, c, Q⟩ := X
  obtain ⟨hx, hb, hml, hown, hwm, hold, hlocks, hG, hfr, hlo, hrc, hrs⟩ := E
  obtain ⟨hr, rfl⟩ := B
  subst hret
  intro H locs ls hS hw hl
  refine W.know fun h1 h2 => W.widen hmk hmn (vx_ret ?_)
  exact W.zret hx hb hr (by rcases hv with rfl | rfl <;> rfl) (fun t ht hW => QcO_of hpo hs hk hn hS hw h1 h2 ht) hS.2.2 hd
theorem j_lret (E : JE X own cc nL d mc ms) (B : JB X ret po px F mc ms) (hret : ret = some .long) {v : Int64} (dc ds : Nat) {ws' : List Asn} (hd : decode cc pc = .ok (.lreturn, 1)) (hpo : po (some (.long v)) dc ds ws') (hs : Sel ws (ws' ++ [F]) fr) (hk : k ≤ dc) (hn : n ≤ ds) (hmk : k ≤ mc) (hmn : n ≤ ms) : J X nL ws k n pc lv [.long v] := by
  obtain ⟨⟨l, s0, D, ca⟩, p, e, R, s, m, args, below, meth, c, Q⟩ := X
  obtain ⟨hx, hb, hml, hown, hwm, hold, hlocks, hG, hfr, hlo, hrc, hrs⟩ := E
  obtain ⟨hr, rfl⟩ := B
  subst hret
  intro H locs ls hS hw hl
  refine W.know fun h1 h2 => W.widen hmk hmn (vx_ret ?_)
  exact W.lret hx hb hr (fun t ht hW => QcO_of hpo hs hk hn hS hw h1 h2 ht) hS.2.2 hd
theorem j_vret (E : JE X own cc nL d mc ms) (B : JB X ret po px F mc ms) (hret : ret = none) (dc ds : Nat) {ws' : List Asn} (hd : decode cc pc = .ok (.return_, 1)) (hpo : po none dc ds ws') (hs : Sel ws (ws' ++ [F]) fr) (hk : k ≤ dc) (hn : n ≤ ds) (hmk : k ≤ mc) (hmn : n ≤ ms) : J X nL ws k n pc lv [] := by
  obtain ⟨⟨l, s0, D, ca⟩, p, e, R, s, m, args, below, meth, c, Q⟩ := X
  obtain ⟨hx, hb, hml, hown, hwm, hold, hlocks, hG, hfr, hlo, hrc, hrs⟩ := E
  obtain ⟨hr, rfl⟩ := B
  subst hret
  intro H locs ls hS hw hl
  refine W.know fun h1 h2 => W.widen hmk hmn (vx_ret ?_)
  exact W.vret hx hb hr (fun t ht hW => QcO_of hpo hs hk hn hS hw h1 h2 ht) hS.2.2 hd
theorem j_aret (E : JE X own cc nL d mc ms) (B : JB X ret po px F mc ms) {rt : FieldType} (hret : ret = some rt) (hrt : (∃ n, rt = .object n) ∨ ∃ t, rt = .array t) {v : Value} (hv : v = .null ∨ ∃ a, v = .ref a) (dc ds : Nat) {ws' : List Asn} (hd : decode cc pc = .ok (.areturn, 1)) (hpo : po (some v) dc ds ws') (hs : Sel ws (ws' ++ [F]) fr) (hk : k ≤ dc) (hn : n ≤ ds) (hmk : k ≤ mc) (hmn : n ≤ ms) : J X nL ws k n pc lv [v] := by
  obtain ⟨⟨l, s0, D, ca⟩, p, e, R, s, m, args, below, meth, c, Q⟩ := X
  obtain ⟨hx, hb, hml, hown, hwm, hold, hlocks, hG, hfr, hlo, hrc, hrs⟩ := E
  obtain ⟨hr, rfl⟩ := B
  subst hret
  intro H locs ls hS hw hl
  refine W.know fun h1 h2 => W.widen hmk hmn (vx_ret ?_)
  exact W.aret hx hb hr hrt hv (fun t ht hW => QcO_of hpo hs hk hn hS hw h1 h2 ht) hS.2.2 hd
/-- not caught: on to the caller -/
theorem jx_out (E : JE X own cc nL d mc ms) (B : JB X ret po px F mc ms) (T : ∀ x ∈ X.2.2.2.2.2.2.2.2.2.1.exceptionTable.toList, False) {En : String} (dc ds : Nat) {ws' : List Asn} (hpx : px En dc ds ws') (hs : Sel ws (ws' ++ [F]) fr) (hk : k ≤ dc) (hn : n ≤ ds) (hmk : k ≤ mc) (hmn : n ≤ ms) : JX X nL ws k n pc lv En := by
  obtain ⟨⟨l, s0, D, ca⟩, p, e, R, s, m, args, below, meth, c, Q⟩ := X
  obtain ⟨hx, hb, hml, hown, hwm, hold, hlocks, hG, hfr, hlo, hrc, hrs⟩ := E
  obtain ⟨hr, rfl⟩ := B
  intro H locs ls q ce rest hS hw hl h1 h2 h3
  refine vx_W.know fun g1 g2 => ?_
  exact vx_out (fun x hx => (T x hx).elim) hlocks h1 h2 h3 (fun t ht _ => ⟨⟨dc, ds, ws', hpx, by rw [ht]; exact hw.sel hs, by rw [ht]; omega, by rw [ht]; omega⟩, hS.F ht⟩) hS.2.2 hmk hmn
end JT
theorem pk_0 {P : Asn} {L : List Asn} : Pick (P :: L) P L := pick_0
theorem pk_1 {A0 P : Asn} {L : List Asn} : Pick (A0 :: P :: L) P (A0 :: L) := pick_s pk_0
theorem pk_2 {A0 A1 P : Asn} {L : List Asn} : Pick (A0 :: A1 :: P :: L) P (A0 :: A1 :: L) := pick_s pk_1
theorem pk_3 {A0 A1 A2 P : Asn} {L : List Asn} : Pick (A0 :: A1 :: A2 :: P :: L) P (A0 :: A1 :: A2 :: L) := pick_s pk_2
theorem pk_4 {A0 A1 A2 A3 P : Asn} {L : List Asn} : Pick (A0 :: A1 :: A2 :: A3 :: P :: L) P (A0 :: A1 :: A2 :: A3 :: L) := pick_s pk_3
theorem pk_5 {A0 A1 A2 A3 A4 P : Asn} {L : List Asn} : Pick (A0 :: A1 :: A2 :: A3 :: A4 :: P :: L) P (A0 :: A1 :: A2 :: A3 :: A4 :: L) := pick_s pk_4
theorem pk_6 {A0 A1 A2 A3 A4 A5 P : Asn} {L : List Asn} : Pick (A0 :: A1 :: A2 :: A3 :: A4 :: A5 :: P :: L) P (A0 :: A1 :: A2 :: A3 :: A4 :: A5 :: L) := pick_s pk_5
theorem pk_7 {A0 A1 A2 A3 A4 A5 A6 P : Asn} {L : List Asn} : Pick (A0 :: A1 :: A2 :: A3 :: A4 :: A5 :: A6 :: P :: L) P (A0 :: A1 :: A2 :: A3 :: A4 :: A5 :: A6 :: L) := pick_s pk_6
theorem pk_8 {A0 A1 A2 A3 A4 A5 A6 A7 P : Asn} {L : List Asn} : Pick (A0 :: A1 :: A2 :: A3 :: A4 :: A5 :: A6 :: A7 :: P :: L) P (A0 :: A1 :: A2 :: A3 :: A4 :: A5 :: A6 :: A7 :: L) := pick_s pk_7
theorem pk_9 {A0 A1 A2 A3 A4 A5 A6 A7 A8 P : Asn} {L : List Asn} : Pick (A0 :: A1 :: A2 :: A3 :: A4 :: A5 :: A6 :: A7 :: A8 :: P :: L) P (A0 :: A1 :: A2 :: A3 :: A4 :: A5 :: A6 :: A7 :: A8 :: L) := pick_s pk_8
theorem pk_10 {A0 A1 A2 A3 A4 A5 A6 A7 A8 A9 P : Asn} {L : List Asn} : Pick (A0 :: A1 :: A2 :: A3 :: A4 :: A5 :: A6 :: A7 :: A8 :: A9 :: P :: L) P (A0 :: A1 :: A2 :: A3 :: A4 :: A5 :: A6 :: A7 :: A8 :: A9 :: L) := pick_s pk_9
theorem pk_11 {A0 A1 A2 A3 A4 A5 A6 A7 A8 A9 A10 P : Asn} {L : List Asn} : Pick (A0 :: A1 :: A2 :: A3 :: A4 :: A5 :: A6 :: A7 :: A8 :: A9 :: A10 :: P :: L) P (A0 :: A1 :: A2 :: A3 :: A4 :: A5 :: A6 :: A7 :: A8 :: A9 :: A10 :: L) := pick_s pk_10
theorem pk_12 {A0 A1 A2 A3 A4 A5 A6 A7 A8 A9 A10 A11 P : Asn} {L : List Asn} : Pick (A0 :: A1 :: A2 :: A3 :: A4 :: A5 :: A6 :: A7 :: A8 :: A9 :: A10 :: A11 :: P :: L) P (A0 :: A1 :: A2 :: A3 :: A4 :: A5 :: A6 :: A7 :: A8 :: A9 :: A10 :: A11 :: L) := pick_s pk_11
theorem pk_13 {A0 A1 A2 A3 A4 A5 A6 A7 A8 A9 A10 A11 A12 P : Asn} {L : List Asn} : Pick (A0 :: A1 :: A2 :: A3 :: A4 :: A5 :: A6 :: A7 :: A8 :: A9 :: A10 :: A11 :: A12 :: P :: L) P (A0 :: A1 :: A2 :: A3 :: A4 :: A5 :: A6 :: A7 :: A8 :: A9 :: A10 :: A11 :: A12 :: L) := pick_s pk_12
theorem pk_14 {A0 A1 A2 A3 A4 A5 A6 A7 A8 A9 A10 A11 A12 A13 P : Asn} {L : List Asn} : Pick (A0 :: A1 :: A2 :: A3 :: A4 :: A5 :: A6 :: A7 :: A8 :: A9 :: A10 :: A11 :: A12 :: A13 :: P :: L) P (A0 :: A1 :: A2 :: A3 :: A4 :: A5 :: A6 :: A7 :: A8 :: A9 :: A10 :: A11 :: A12 :: A13 :: L) := pick_s pk_13
theorem pk_15 {A0 A1 A2 A3 A4 A5 A6 A7 A8 A9 A10 A11 A12 A13 A14 P : Asn} {L : List Asn} : Pick (A0 :: A1 :: A2 :: A3 :: A4 :: A5 :: A6 :: A7 :: A8 :: A9 :: A10 :: A11 :: A12 :: A13 :: A14 :: P :: L) P (A0 :: A1 :: A2 :: A3 :: A4 :: A5 :: A6 :: A7 :: A8 :: A9 :: A10 :: A11 :: A12 :: A13 :: A14 :: L) := pick_s pk_14
theorem pk_16 {A0 A1 A2 A3 A4 A5 A6 A7 A8 A9 A10 A11 A12 A13 A14 A15 P : Asn} {L : List Asn} : Pick (A0 :: A1 :: A2 :: A3 :: A4 :: A5 :: A6 :: A7 :: A8 :: A9 :: A10 :: A11 :: A12 :: A13 :: A14 :: A15 :: P :: L) P (A0 :: A1 :: A2 :: A3 :: A4 :: A5 :: A6 :: A7 :: A8 :: A9 :: A10 :: A11 :: A12 :: A13 :: A14 :: A15 :: L) := pick_s pk_15
theorem pk_17 {A0 A1 A2 A3 A4 A5 A6 A7 A8 A9 A10 A11 A12 A13 A14 A15 A16 P : Asn} {L : List Asn} : Pick (A0 :: A1 :: A2 :: A3 :: A4 :: A5 :: A6 :: A7 :: A8 :: A9 :: A10 :: A11 :: A12 :: A13 :: A14 :: A15 :: A16 :: P :: L) P (A0 :: A1 :: A2 :: A3 :: A4 :: A5 :: A6 :: A7 :: A8 :: A9 :: A10 :: A11 :: A12 :: A13 :: A14 :: A15 :: A16 :: L) := pick_s pk_16
theorem pk_18 {A0 A1 A2 A3 A4 A5 A6 A7 A8 A9 A10 A11 A12 A13 A14 A15 A16 A17 P : Asn} {L : List Asn} : Pick (A0 :: A1 :: A2 :: A3 :: A4 :: A5 :: A6 :: A7 :: A8 :: A9 :: A10 :: A11 :: A12 :: A13 :: A14 :: A15 :: A16 :: A17 :: P :: L) P (A0 :: A1 :: A2 :: A3 :: A4 :: A5 :: A6 :: A7 :: A8 :: A9 :: A10 :: A11 :: A12 :: A13 :: A14 :: A15 :: A16 :: A17 :: L) := pick_s pk_17
theorem pk_19 {A0 A1 A2 A3 A4 A5 A6 A7 A8 A9 A10 A11 A12 A13 A14 A15 A16 A17 A18 P : Asn} {L : List Asn} : Pick (A0 :: A1 :: A2 :: A3 :: A4 :: A5 :: A6 :: A7 :: A8 :: A9 :: A10 :: A11 :: A12 :: A13 :: A14 :: A15 :: A16 :: A17 :: A18 :: P :: L) P (A0 :: A1 :: A2 :: A3 :: A4 :: A5 :: A6 :: A7 :: A8 :: A9 :: A10 :: A11 :: A12 :: A13 :: A14 :: A15 :: A16 :: A17 :: A18 :: L) := pick_s pk_18
theorem pk_20 {A0 A1 A2 A3 A4 A5 A6 A7 A8 A9 A10 A11 A12 A13 A14 A15 A16 A17 A18 A19 P : Asn} {L : List Asn} : Pick (A0 :: A1 :: A2 :: A3 :: A4 :: A5 :: A6 :: A7 :: A8 :: A9 :: A10 :: A11 :: A12 :: A13 :: A14 :: A15 :: A16 :: A17 :: A18 :: A19 :: P :: L) P (A0 :: A1 :: A2 :: A3 :: A4 :: A5 :: A6 :: A7 :: A8 :: A9 :: A10 :: A11 :: A12 :: A13 :: A14 :: A15 :: A16 :: A17 :: A18 :: A19 :: L) := pick_s pk_19
theorem pk_21 {A0 A1 A2 A3 A4 A5 A6 A7 A8 A9 A10 A11 A12 A13 A14 A15 A16 A17 A18 A19 A20 P : Asn} {L : List Asn} : Pick (A0 :: A1 :: A2 :: A3 :: A4 :: A5 :: A6 :: A7 :: A8 :: A9 :: A10 :: A11 :: A12 :: A13 :: A14 :: A15 :: A16 :: A17 :: A18 :: A19 :: A20 :: P :: L) P (A0 :: A1 :: A2 :: A3 :: A4 :: A5 :: A6 :: A7 :: A8 :: A9 :: A10 :: A11 :: A12 :: A13 :: A14 :: A15 :: A16 :: A17 :: A18 :: A19 :: A20 :: L) := pick_s pk_20
theorem pk_22 {A0 A1 A2 A3 A4 A5 A6 A7 A8 A9 A10 A11 A12 A13 A14 A15 A16 A17 A18 A19 A20 A21 P : Asn} {L : List Asn} : Pick (A0 :: A1 :: A2 :: A3 :: A4 :: A5 :: A6 :: A7 :: A8 :: A9 :: A10 :: A11 :: A12 :: A13 :: A14 :: A15 :: A16 :: A17 :: A18 :: A19 :: A20 :: A21 :: P :: L) P (A0 :: A1 :: A2 :: A3 :: A4 :: A5 :: A6 :: A7 :: A8 :: A9 :: A10 :: A11 :: A12 :: A13 :: A14 :: A15 :: A16 :: A17 :: A18 :: A19 :: A20 :: A21 :: L) := pick_s pk_21
theorem pk_23 {A0 A1 A2 A3 A4 A5 A6 A7 A8 A9 A10 A11 A12 A13 A14 A15 A16 A17 A18 A19 A20 A21 A22 P : Asn} {L : List Asn} : Pick (A0 :: A1 :: A2 :: A3 :: A4 :: A5 :: A6 :: A7 :: A8 :: A9 :: A10 :: A11 :: A12 :: A13 :: A14 :: A15 :: A16 :: A17 :: A18 :: A19 :: A20 :: A21 :: A22 :: P :: L) P (A0 :: A1 :: A2 :: A3 :: A4 :: A5 :: A6 :: A7 :: A8 :: A9 :: A10 :: A11 :: A12 :: A13 :: A14 :: A15 :: A16 :: A17 :: A18 :: A19 :: A20 :: A21 :: A22 :: L) := pick_s pk_22
end
section
/-! throws, catches, statics, over the parts of a world -/
theorem same_sum {s t : State} {L : List Loc} {k n : Nat} (h : s.sameButNew t L k n) : t.heap.size ≤ s.heap.size + k ∧ slotSum t.heap ≤ slotSum s.heap + n := by
  obtain ⟨-, h2, h3, -, h5, h6⟩ := h
  refine ⟨h3, ?_⟩
  rw [slotSum_eq, slotSum_eq]
  have e : t.heap.toList.map (·.slots.size) = s.heap.toList.map (·.slots.size) ++ (t.heap.toList.drop s.heap.size).map (·.slots.size) := by
    apply List.ext_getElem?
    intro i
    by_cases hi : i < s.heap.size
    · rw [List.getElem?_append_left (by simpa using hi), List.getElem?_map, List.getElem?_map, Array.getElem?_toList, Array.getElem?_toList]
      obtain ⟨c', e1, -, e3, -⟩ := h6 i _ (Array.getElem?_eq_getElem hi)
      rw [e1, Array.getElem?_eq_getElem hi]
      simp [e3]
    · rw [List.getElem?_append_right (by simpa using hi), List.getElem?_map, List.getElem?_map, List.getElem?_drop]
      simp only [List.length_map, Array.length_toList]
      rw [show s.heap.size + (i - s.heap.size) = i by omega]
  rw [e, List.sum_append]
  omega
def GLB2 (g : GT) : Prop := vx_Zq Bundle.tN "UNASSIGNED_STACK" Bundle.steD (A9 g.2.1) g.2.1 g.2.1.heap ∧ vx_Zq Bundle.tN "SUPPRESSED_SENTINEL" Bundle.listD (A9 g.2.1) g.2.1 g.2.1.heap ∧ ∀ (own : String) (k : Nat) (tx : String), own = "PackedGraph" → Cond.stringRef own k tx ∈ lw_tbl → ∃ sa, vk_R own k tx sa g.2.1
def w8 (w : Cond) : Bool := goodWord w || (w.onTables && w.faceAtom)
theorem GLB.word8 {g : GT} (h : GLB g) {s : State} (hw : g.2.1.WarmedH s.vm) {w : Cond} (h1 : w ∈ lw_tbl) (h2 : w8 w = true) (a : Array Value) : w.before a s = true := by
  unfold w8 at h2
  rw [Bool.or_eq_true, Bool.and_eq_true] at h2
  rcases h2 with h2 | ⟨h2, h3⟩
  · exact h.word hw ⟨h1, h2⟩ a
  · exact va_tabs h2 (rfl : (g.2.1.setVm s.vm).vm = s.vm) (Cond.faceAtom_setVm hw.alike _ h3 (h.2.1 w h1 a))
def THK (own : String) (ik is ic : Nat) (cls text : String) (names : List String) : Prop := Bundle.fit cls = true ∧ (∀ n ∈ names, Bundle.fit n = true) ∧ W9 (.classLink own ik cls) ∧ W9 (.initialized cls) ∧ Cond.stringRef own is text ∈ lw_tbl ∧ own = "PackedGraph" ∧ (∀ w ∈ vx_atS own ic cls names, w ∈ lw_tbl) ∧ (∀ w ∈ vx_atS own ic cls names, w8 w = true) ∧ ∀ w ∈ Cond.classLink own ik cls :: Cond.initialized cls :: vx_atS own ic cls names, vx_ot w = true
theorem Old.Zq {s0 s : State} {C n d : String} (hwm : s0.WarmedH s.vm) (h : Old s0 s.heap) (hz : vx_Zq C n d (A9 s0) s0 s0.heap) : vx_Zq C n d (A9 s0) s s.heap := (hz.moved hwm.alike).kept (fun a ha _ => h.2 a ha)
theorem vx_MQ.mono {below : List Frame} {Qc : Array Value → State → Outcome → State → Prop} {XC0 XC : String → State → State → Prop} {a : Array Value} {s t : State} {k n mc ms : Nat} {free : Addr → Prop} (h : vx_MQ below Qc XC0 a s k n free t) (hQ : ∀ o, Qc a s o t → False) (hX : ∀ E, XC0 E s t → t.heap.size ≤ s.heap.size + k → slotSum t.heap ≤ slotSum s.heap + n → XC E s t) (hk : k ≤ mc) (hn : n ≤ ms) : vx_MQ below Qc XC a s mc ms free t := by
  obtain ⟨o, h1, h2, h3⟩ := h
  refine ⟨o, h1, h2, ?_⟩
  rcases h3 with ⟨h3, -⟩ | ⟨q, h3, E, ce, L, g1, g2, g3, g4, g5, g6, g7⟩
  · exact (hQ o h3).elim
  · have hs := same_sum g6
    exact Or.inr ⟨q, h3, E, ce, L, hX E g1 hs.1 hs.2, g2, g3, g4, g5, g6.mono hk hn, g7⟩
section JTH
variable {X : XT} {own : String} {cc : ByteArray} {nL d mc ms : Nat} {ws fr pre ws1 : List Asn} {k n pc : Nat} {lv : List (Option Value)} {st rest : List Value} {a : Nat} {po : PoT} {px : PxT} {F : Asn} {ret : Option FieldType}
theorem j_throwS (E : JE X own cc nL d mc ms) (B : JB X ret po px F mc ms) (T : ∀ x ∈ X.2.2.2.2.2.2.2.2.2.1.exceptionTable.toList, False) (h2 : GLB2 X.1) {ik is ic : Nat} {cls text : String} {names : List String} (tk : THK own ik is ic cls text names) (dc ds : Nat) {ws' : List Asn}
    (d0 : decode cc pc = .ok (.new ik, 3)) (p3 p4 p6 p9 : Nat) (e3 : pc + 3 = p3) (e4 : pc + 4 = p4) (e6 : pc + 6 = p6) (e9 : pc + 9 = p9) (d3 : decode cc p3 = .ok (.dup, 1)) (d4 : decode cc p4 = .ok (.ldc is, 2)) (d6 : decode cc p6 = .ok (.invokespecial ic, 3)) (d9 : decode cc p9 = .ok (.athrow, 1))
    (hpx : px cls dc ds ws') (hs : Sel ws (ws' ++ [F]) fr) (hk : k + 1 ≤ dc) (hn : n + 6 ≤ ds) (hmk : k + 1 ≤ mc) (hmn : n + 6 ≤ ms) (hf9 : names.length + 3 < d) (hl9 : (st.map fun v => v.category).sum + (13 * (names.length + 1) + 43) ≤ 46 * d) : J X nL ws k n pc lv st := by
  obtain ⟨⟨l, s0, D, ca⟩, p, e, R, s, m, args, below, meth, c, Q⟩ := X
  obtain ⟨hx, hb, hml, hown, hwm, hold, hlocks, hG, hfr, hlo, hrc, hrs⟩ := E
  obtain ⟨hr, rfl⟩ := B
  subst e3; subst e4; subst e6; subst e9
  obtain ⟨t1, t2, t3, t4, t5, t6, t7, t8, t9⟩ := tk
  obtain ⟨u1, u2, u3⟩ := h2
  obtain ⟨sa, hsa⟩ := u3 own is text t6 t5
  intro H locs ls hS hw hls
  have K : W p l e R s m args below meth c H locs k n (vx_MQ below (fun _ _ _ _ => False) (fun E st t => (E = cls ∧ Wld s0 D (ws' ++ [F]) t.heap) ∧ va_F (A9 s0) st t) args s (k + 1) (n + 6) (A9 s0)) (F0 m pc ls st) := by
    refine vx_throwS (A := A9 s0) hx hb hG.1 hown t1 t2 (hG.word hwm t3 _) (hG.word hwm t4 _) (hsa.warm hwm) (fun w h => hG.word8 hwm (t7 w h) (t8 w h) _) t9 (Old.Zq hwm hold u1) (Old.Zq hwm hold u2) hS (hls.1.trans hml.symm) d0 d3 d4 d6 d9 (fun x hx => (T x hx).elim) (by omega) (by omega) (by omega) (by omega) hlocks ?_ hS.2.2 (Nat.le_refl _) (Nat.le_refl _)
    intro t _ hz hq
    refine ⟨⟨rfl, ?_⟩, ?_⟩
    · obtain ⟨w, hP, hD, hs9⟩ := hw.sel hs
      exact ⟨w, hP.kept (fun q x hx => hq x.1 ((hP q x hx).lt)), hD, hs9⟩
    · exact ⟨Nat.le_trans hS.1 hz, fun q h1 h2 => (hq q (Nat.lt_of_lt_of_le h1 hS.1)).trans (hS.2.1 q h1 h2)⟩
  intro T9 hT X9
  obtain ⟨t, g1, g2⟩ := K T9 hT X9
  refine ⟨t, g1, ?_⟩
  obtain ⟨o, q1, q2, q3⟩ := g2
  refine ⟨o, q1, q2, ?_⟩
  rcases q3 with ⟨q3, -⟩ | ⟨q, q3, En, ce, L, ⟨⟨rfl, v2⟩, v3⟩, v4, v5, v6, v7, v8, v9⟩
  · exact q3.elim
  · have hs := same_sum v8
    exact Or.inr ⟨q, q3, En, ce, L, ⟨⟨dc, ds, ws', hpx, v2, Nat.le_trans hs.1 (by omega), Nat.le_trans hs.2 (by omega)⟩, v3⟩, v4, v5, v6, v7, v8.mono hmk hmn, v9⟩
/-- a static field of the program that is never written -/
theorem j_gets (E : JE X own cc nL d mc ms) {index : Nat} {C nm ds : String} {v : Value} (pc' : Nat) (hd : decode cc pc = .ok (.getstatic index, 3)) (hZ : va_Z C nm ds v (A9 X.1.2.1) X.1.2.1 X.1.2.1.heap) (hl : W9 (.fieldLink own index C nm ds)) (hpc : pc + 3 = pc') (kk : J X nL ws k n pc' lv (v :: st)) : J X nL ws k n pc lv st := by
  obtain ⟨⟨l, s0, D, ca⟩, p, e, R, s, m, args, below, meth, c, Q⟩ := X
  obtain ⟨hx, hb, hml, hown, hwm, hold, hlocks, hG, hfr, hlo, hrc, hrs⟩ := E
  subst hpc
  intro H locs ls hS hw hls
  exact va_gets hx hb ((hZ.moved hwm.alike).kept (fun a ha _ => hold.2 a ha)) hS hown (hG.word hwm hl _) (fun x h => h) hd (kk H locs ls hS hw hls)
theorem j_getsN (E : JE X own cc nL d mc ms) {index : Nat} {C nm ds host : String} {v : Value} (pc' : Nat) (hd : decode cc pc = .ok (.getstatic index, 3)) (hZ : va_Z C nm ds v (A9 X.1.2.1) X.1.2.1 X.1.2.1.heap) (hl : (.fieldLinkNest own index C nm ds host) ∈ lw_tbl) (hpc : pc + 3 = pc') (kk : J X nL ws k n pc' lv (v :: st)) : J X nL ws k n pc lv st := by
  obtain ⟨⟨l, s0, D, ca⟩, p, e, R, s, m, args, below, meth, c, Q⟩ := X
  obtain ⟨hx, hb, hml, hown, hwm, hold, hlocks, hG, hfr, hlo, hrc, hrs⟩ := E
  subst hpc
  intro H locs ls hS hw hls
  exact va_getsN hx hb ((hZ.moved hwm.alike).kept (fun a ha _ => hold.2 a ha)) hS hown (va_Nw.use rfl (va_Nw.warmF hwm (hG.2.1 _ hl #[]))) (fun x h => h) hd (kk H locs ls hS hw hls)
/-- an array of the start -/
def OT (g : GT) (ty : FieldType) (t N : Nat) (f : Nat → Value) : Prop := va_T ty t N f (A9 g.2.1) g.2.1 g.2.1.heap
theorem OT.at {g : GT} {ty : FieldType} {t N : Nat} {f : Nat → Value} (h : OT g ty t N f) {s : State} (hwm : g.2.1.WarmedH s.vm) (ho : Old g.2.1 s.heap) : va_T ty t N f (A9 g.2.1) s s.heap := (h.moved hwm.alike).kept (fun a ha _ => ho.2 a ha)
theorem j_ti (E : JE X own cc nL d mc ms) {t N : Nat} {f : Nat → Value} {i : Int32} {v : Value} (pc' : Nat) (hd : decode cc pc = .ok (.iaload, 1)) (hT : OT X.1 .int t N f) (hin : vp_in i N) (hv : f i.toNatClampNeg = v) (hpc : pc + 1 = pc') (kk : J X nL ws k n pc' lv (v :: st)) : J X nL ws k n pc lv (.int i :: .ref t :: st) := by
  obtain ⟨⟨l, s0, D, ca⟩, p, e, R, s, m, args, below, meth, c, Q⟩ := X
  obtain ⟨hx, hb, hml, hown, hwm, hold, hlocks, hG, hfr, hlo, hrc, hrs⟩ := E
  subst hpc
  intro H locs ls hS hw hls
  exact va_ti hx hb (hT.at hwm hold) hS hin hv hd (kk H locs ls hS hw hls)
theorem j_tlen (E : JE X own cc nL d mc ms) {ty : FieldType} {t N : Nat} {f : Nat → Value} (v : Int32) (pc' : Nat) (hd : decode cc pc = .ok (.arraylength, 1)) (hT : OT X.1 ty t N f) (hv : Int32.ofNat N = v) (hpc : pc + 1 = pc') (kk : J X nL ws k n pc' lv (.int v :: st)) : J X nL ws k n pc lv (.ref t :: st) := by
  obtain ⟨⟨l, s0, D, ca⟩, p, e, R, s, m, args, below, meth, c, Q⟩ := X
  obtain ⟨hx, hb, hml, hown, hwm, hold, hlocks, hG, hfr, hlo, hrc, hrs⟩ := E
  subst hpc
  intro H locs ls hS hw hls
  exact va_tlen hx hb (hT.at hwm hold) hS hv hd (kk H locs ls hS hw hls)
/-- references compared -/
theorem j_acmp_eq (E : JE X own cc nL d mc ms) {rx ry : Option Nat} {off : Int} (tgt pc' : Nat) (hd : decode cc pc = .ok (.if_acmp .eq off, 3)) (ht : (pc : Int) + off = (tgt : Int)) (hp : pc + 3 = pc') (kt : rx = ry → J X nL ws k n tgt lv st) (kf : ¬ rx = ry → J X nL ws k n pc' lv st) : J X nL ws k n pc lv (va_rf ry :: va_rf rx :: st) := by
  obtain ⟨⟨l, s0, D, ca⟩, p, e, R, s, m, args, below, meth, c, Q⟩ := X
  obtain ⟨hx, hb, hml, hown, hwm, hold, hlocks, hG, hfr, hlo, hrc, hrs⟩ := E
  subst hp
  intro H locs ls hS hw hl
  exact lv_acmp_eq hx hb hd ht (fun z => kt z H locs ls hS hw hl) (fun z => kf z H locs ls hS hw hl)
theorem j_acmp_ne (E : JE X own cc nL d mc ms) {rx ry : Option Nat} {off : Int} (tgt pc' : Nat) (hd : decode cc pc = .ok (.if_acmp .ne off, 3)) (ht : (pc : Int) + off = (tgt : Int)) (hp : pc + 3 = pc') (kt : ¬ rx = ry → J X nL ws k n tgt lv st) (kf : rx = ry → J X nL ws k n pc' lv st) : J X nL ws k n pc lv (va_rf ry :: va_rf rx :: st) := by
  obtain ⟨⟨l, s0, D, ca⟩, p, e, R, s, m, args, below, meth, c, Q⟩ := X
  obtain ⟨hx, hb, hml, hown, hwm, hold, hlocks, hG, hfr, hlo, hrc, hrs⟩ := E
  subst hp
  intro H locs ls hS hw hl
  first
    | exact lv_acmp_ne hx hb hd ht (fun z => kt z H locs ls hS hw hl) (fun z => kf z H locs ls hS hw hl)
    | exact lv_acmp_ne hx hb hd ht (fun z => kt z H locs ls hS hw hl) (fun z => kf (Classical.byContradiction z) H locs ls hS hw hl)
/-- the copying of numbers: own to own, start's to own -/
def CPY (own : String) (index : Nat) : Prop := W9 (.methodLink own index arraycopyName) ∧ W9 (.native arraycopyName) ∧ W9 (.static arraycopyName) ∧ W9 (.initialized "java/lang/System")
theorem copyB {ca : Nat → ClassId} {i : Nat} {ty : FieldType} (h : (tysL ca)[i]? = some (ca i, ty)) : (tysL ca)[i]? = some (ca i, ty) := h
theorem j_copyB (E : JE X own cc nL d mc ms) {index a0 n0 n1 : Nat} {f g : Nat → Int32} {ws2 : List Asn} {sp dp nn : Int32} (pc' : Nat) (hd : decode cc pc = .ok (.invokestatic index, 3)) (cp : CPY own index) (hp0 : Pick ws (pt a0 (aB X.1 n0 f)) ws2) (hp : Pick ws (pt a (aB X.1 n1 g)) ws1) (h1 : ¬ sp < 0) (h2 : ¬ dp < 0) (h3 : ¬ nn < 0) (h4 : sp.toNatClampNeg + nn.toNatClampNeg ≤ n0) (h5 : dp.toNatClampNeg + nn.toNatClampNeg ≤ n1) (hfit : ∀ i, i < nn.toNatClampNeg → fits .byte (.int (f (sp.toNatClampNeg + i))) = true) (hd9 : 2 ≤ d) (hst : (st.map fun v => v.category).sum ≤ 8) (hpc : pc + 3 = pc')
    (kk : J X nL (pt a (aB X.1 n1 (va_cpy f g sp.toNatClampNeg dp.toNatClampNeg nn.toNatClampNeg)) :: ws1) k n pc' lv st) : J X nL ws k n pc lv (.int nn :: .int dp :: .ref a :: .int sp :: .ref a0 :: st) := by
  obtain ⟨⟨l, s0, D, ca⟩, p, e, R, s, m, args, below, meth, c, Q⟩ := X
  obtain ⟨hx, hb, hml, hown, hwm, hold, hlocks, hG, hfr, hlo, hrc, hrs⟩ := E
  subst hpc
  intro H locs ls hS hw hl
  obtain ⟨w, hP, hD, hs⟩ := id hw
  obtain ⟨q, hq, hset⟩ := pick_at hp hs
  obtain ⟨q0, hq0, -⟩ := pick_at hp0 hs
  have hnw : nativeFrameWords "java/lang/System" "arraycopy" 5 + 11 ≤ 80 := by decide
  exact va_copyi hx hb (hml.trans hl.1.symm) hown (hG.word hwm cp.1 _) (hG.word hwm cp.2.1 _) (hG.word hwm cp.2.2.1 _) (hG.word hwm cp.2.2.2 _) (hG.K hwm) hP hD hS q0 q 0 0 hq0 hq rfl rfl rfl h1 h2 h3 h4 h5 hfit (by omega) (by omega) hd (fun H1 locs1 hP1 hD1 hS1 => kk H1 locs1 ls hS1 ⟨_, hP1, hD1, hset _⟩ hl)
theorem j_copyI (E : JE X own cc nL d mc ms) {index a0 n0 n1 : Nat} {f g : Nat → Int32} {ws2 : List Asn} {sp dp nn : Int32} (pc' : Nat) (hd : decode cc pc = .ok (.invokestatic index, 3)) (cp : CPY own index) (hp0 : Pick ws (pt a0 (aI X.1 n0 f)) ws2) (hp : Pick ws (pt a (aI X.1 n1 g)) ws1) (h1 : ¬ sp < 0) (h2 : ¬ dp < 0) (h3 : ¬ nn < 0) (h4 : sp.toNatClampNeg + nn.toNatClampNeg ≤ n0) (h5 : dp.toNatClampNeg + nn.toNatClampNeg ≤ n1) (hd9 : 2 ≤ d) (hst : (st.map fun v => v.category).sum ≤ 8) (hpc : pc + 3 = pc')
    (kk : J X nL (pt a (aI X.1 n1 (va_cpy f g sp.toNatClampNeg dp.toNatClampNeg nn.toNatClampNeg)) :: ws1) k n pc' lv st) : J X nL ws k n pc lv (.int nn :: .int dp :: .ref a :: .int sp :: .ref a0 :: st) := by
  obtain ⟨⟨l, s0, D, ca⟩, p, e, R, s, m, args, below, meth, c, Q⟩ := X
  obtain ⟨hx, hb, hml, hown, hwm, hold, hlocks, hG, hfr, hlo, hrc, hrs⟩ := E
  subst hpc
  intro H locs ls hS hw hl
  obtain ⟨w, hP, hD, hs⟩ := id hw
  obtain ⟨q, hq, hset⟩ := pick_at hp hs
  obtain ⟨q0, hq0, -⟩ := pick_at hp0 hs
  have hnw : nativeFrameWords "java/lang/System" "arraycopy" 5 + 11 ≤ 80 := by decide
  exact va_copyi hx hb (hml.trans hl.1.symm) hown (hG.word hwm cp.1 _) (hG.word hwm cp.2.1 _) (hG.word hwm cp.2.2.1 _) (hG.word hwm cp.2.2.2 _) (hG.K hwm) hP hD hS q0 q 1 1 hq0 hq rfl rfl rfl h1 h2 h3 h4 h5 (fun _ _ => rfl) (by omega) (by omega) hd (fun H1 locs1 hP1 hD1 hS1 => kk H1 locs1 ls hS1 ⟨_, hP1, hD1, hset _⟩ hl)
theorem j_copyTB (E : JE X own cc nL d mc ms) {index a0 n0 n1 : Nat} {f g : Nat → Int32} {sp dp nn : Int32} (pc' : Nat) (hd : decode cc pc = .ok (.invokestatic index, 3)) (cp : CPY own index) (hp0 : OT X.1 .byte a0 n0 (fun j => .int (f j))) (hp : Pick ws (pt a (aB X.1 n1 g)) ws1) (h1 : ¬ sp < 0) (h2 : ¬ dp < 0) (h3 : ¬ nn < 0) (h4 : sp.toNatClampNeg + nn.toNatClampNeg ≤ n0) (h5 : dp.toNatClampNeg + nn.toNatClampNeg ≤ n1) (hfit : ∀ i, i < nn.toNatClampNeg → fits .byte (.int (f (sp.toNatClampNeg + i))) = true) (hd9 : 2 ≤ d) (hst : (st.map fun v => v.category).sum ≤ 8) (hpc : pc + 3 = pc')
    (kk : J X nL (pt a (aB X.1 n1 (va_cpy f g sp.toNatClampNeg dp.toNatClampNeg nn.toNatClampNeg)) :: ws1) k n pc' lv st) : J X nL ws k n pc lv (.int nn :: .int dp :: .ref a :: .int sp :: .ref a0 :: st) := by
  obtain ⟨⟨l, s0, D, ca⟩, p, e, R, s, m, args, below, meth, c, Q⟩ := X
  obtain ⟨hx, hb, hml, hown, hwm, hold, hlocks, hG, hfr, hlo, hrc, hrs⟩ := E
  subst hpc
  intro H locs ls hS hw hl
  obtain ⟨w, hP, hD, hs⟩ := id hw
  obtain ⟨q, hq, hset⟩ := pick_at hp hs
  have hnw : nativeFrameWords "java/lang/System" "arraycopy" 5 + 11 ≤ 80 := by decide
  exact vk_copyt hx hb (hml.trans hl.1.symm) hown (hG.word hwm cp.1 _) (hG.word hwm cp.2.1 _) (hG.word hwm cp.2.2.1 _) (hG.word hwm cp.2.2.2 _) (hG.K hwm) hP hD hS (hp0.at hwm hold) q 0 hq rfl h1 h2 h3 h4 h5 hfit (by omega) (by omega) hd (fun H1 locs1 hP1 hD1 hS1 => kk H1 locs1 ls hS1 ⟨_, hP1, hD1, hset _⟩ hl)
end JTH
end
