section
-- ===== PART A: goes FIRST, ahead of the names: the tables' words, and 'selects' of the private methods out of them =====
/-- a private method of a class that the tables say can be made, by its rows of tables_1 -/
def lw_okq (q : MethodName × Nat) : Prop := (q.1.cls ≠ "java/lang/invoke/MethodHandle" ∧ q.1.cls ≠ "java/lang/invoke/VarHandle") ∧ Cond.instantiable q.1.cls q.2 ∈ tables_1 ∧ Cond.privateMethod q.1 ∈ tables_1 ∧ Cond.instanceMethod q.1 ∈ tables_1
theorem lw_p0 : lw_okq (⟨"TornReeds$Sheet", "own", "(LTornReeds$Bit;III)V"⟩, 5) := ⟨⟨by decide +kernel, by decide +kernel⟩, List.mem_of_getElem? (i := 180) (by decide +kernel), List.mem_of_getElem? (i := 373) (by decide +kernel), List.mem_of_getElem? (i := 374) (by decide +kernel)⟩
theorem lw_p1 : lw_okq (⟨"TornReeds$Lanes", "has", "(I)Z"⟩, 2) := ⟨⟨by decide +kernel, by decide +kernel⟩, List.mem_of_getElem? (i := 186) (by decide +kernel), List.mem_of_getElem? (i := 385) (by decide +kernel), List.mem_of_getElem? (i := 386) (by decide +kernel)⟩
theorem lw_p2 : lw_okq (⟨"TornReeds$Bit", "clear", "()V"⟩, 16) := ⟨⟨by decide +kernel, by decide +kernel⟩, List.mem_of_getElem? (i := 47) (by decide +kernel), List.mem_of_getElem? (i := 393) (by decide +kernel), List.mem_of_getElem? (i := 394) (by decide +kernel)⟩
theorem lw_p3 : lw_okq (⟨"TornReeds$Bit", "addCell", "(III)V"⟩, 16) := ⟨⟨by decide +kernel, by decide +kernel⟩, List.mem_of_getElem? (i := 47) (by decide +kernel), List.mem_of_getElem? (i := 401) (by decide +kernel), List.mem_of_getElem? (i := 402) (by decide +kernel)⟩
theorem lw_p4 : lw_okq (⟨"TornReeds", "bitOf", "(I)LTornReeds$Bit;"⟩, 7) := ⟨⟨by decide +kernel, by decide +kernel⟩, List.mem_of_getElem? (i := 17) (by decide +kernel), List.mem_of_getElem? (i := 412) (by decide +kernel), List.mem_of_getElem? (i := 413) (by decide +kernel)⟩
theorem lw_p5 : lw_okq (⟨"TornReeds$Sheet", "runsCan", "(IIILTornReeds$WordList;)Z"⟩, 5) := ⟨⟨by decide +kernel, by decide +kernel⟩, List.mem_of_getElem? (i := 180) (by decide +kernel), List.mem_of_getElem? (i := 458) (by decide +kernel), List.mem_of_getElem? (i := 459) (by decide +kernel)⟩
theorem lw_p6 : lw_okq (⟨"TornReeds$Sheet", "startOfRun", "(II)I"⟩, 5) := ⟨⟨by decide +kernel, by decide +kernel⟩, List.mem_of_getElem? (i := 180) (by decide +kernel), List.mem_of_getElem? (i := 462) (by decide +kernel), List.mem_of_getElem? (i := 463) (by decide +kernel)⟩
theorem lw_p7 : lw_okq (⟨"TornReeds", "looseBit", "(I)LTornReeds$Bit;"⟩, 7) := ⟨⟨by decide +kernel, by decide +kernel⟩, List.mem_of_getElem? (i := 17) (by decide +kernel), List.mem_of_getElem? (i := 560) (by decide +kernel), List.mem_of_getElem? (i := 561) (by decide +kernel)⟩
theorem lw_p8 : lw_okq (⟨"TornReeds$Sheet", "taken", "(II)I"⟩, 5) := ⟨⟨by decide +kernel, by decide +kernel⟩, List.mem_of_getElem? (i := 180) (by decide +kernel), List.mem_of_getElem? (i := 578) (by decide +kernel), List.mem_of_getElem? (i := 579) (by decide +kernel)⟩
theorem lw_p9 : lw_okq (⟨"TornReeds$Places", "add", "(IIIZ)V"⟩, 5) := ⟨⟨by decide +kernel, by decide +kernel⟩, List.mem_of_getElem? (i := 222) (by decide +kernel), List.mem_of_getElem? (i := 584) (by decide +kernel), List.mem_of_getElem? (i := 585) (by decide +kernel)⟩
theorem lw_p10 : lw_okq (⟨"TornReeds$Search", "weigh", "(LTornReeds$Bit;ILTornReeds$Bit;ILTornReeds$Sheet;LTornReeds$WordList;)V"⟩, 7) := ⟨⟨by decide +kernel, by decide +kernel⟩, List.mem_of_getElem? (i := 216) (by decide +kernel), List.mem_of_getElem? (i := 620) (by decide +kernel), List.mem_of_getElem? (i := 621) (by decide +kernel)⟩
theorem lw_p11 : lw_okq (⟨"TornReeds$Search", "gainOf", "(II)I"⟩, 7) := ⟨⟨by decide +kernel, by decide +kernel⟩, List.mem_of_getElem? (i := 216) (by decide +kernel), List.mem_of_getElem? (i := 624) (by decide +kernel), List.mem_of_getElem? (i := 625) (by decide +kernel)⟩
theorem lw_p12 : lw_okq (⟨"TornReeds$Pairing", "columnsMeet", "(I)Z"⟩, 3) := ⟨⟨by decide +kernel, by decide +kernel⟩, List.mem_of_getElem? (i := 249) (by decide +kernel), List.mem_of_getElem? (i := 636) (by decide +kernel), List.mem_of_getElem? (i := 637) (by decide +kernel)⟩
theorem lw_p13 : lw_okq (⟨"TornReeds$Roll", "stoodBy", "(LTornReeds$Bit;I)Z"⟩, 2) := ⟨⟨by decide +kernel, by decide +kernel⟩, List.mem_of_getElem? (i := 287) (by decide +kernel), List.mem_of_getElem? (i := 684) (by decide +kernel), List.mem_of_getElem? (i := 685) (by decide +kernel)⟩
theorem lw_p14 : lw_okq (⟨"TornReeds$KnownText", "firstShift", "(LTornReeds$Bit;I)I"⟩, 2) := ⟨⟨by decide +kernel, by decide +kernel⟩, List.mem_of_getElem? (i := 301) (by decide +kernel), List.mem_of_getElem? (i := 718) (by decide +kernel), List.mem_of_getElem? (i := 719) (by decide +kernel)⟩
theorem lw_p15 : lw_okq (⟨"TornReeds$KnownText", "standsAt", "(LTornReeds$Bit;II)Z"⟩, 2) := ⟨⟨by decide +kernel, by decide +kernel⟩, List.mem_of_getElem? (i := 301) (by decide +kernel), List.mem_of_getElem? (i := 722) (by decide +kernel), List.mem_of_getElem? (i := 723) (by decide +kernel)⟩
def lw_privs_1 : List (MethodName × Nat) := [(⟨"TornReeds$Sheet", "own", "(LTornReeds$Bit;III)V"⟩, 5), (⟨"TornReeds$Lanes", "has", "(I)Z"⟩, 2), (⟨"TornReeds$Bit", "clear", "()V"⟩, 16), (⟨"TornReeds$Bit", "addCell", "(III)V"⟩, 16), (⟨"TornReeds", "bitOf", "(I)LTornReeds$Bit;"⟩, 7), (⟨"TornReeds$Sheet", "runsCan", "(IIILTornReeds$WordList;)Z"⟩, 5), (⟨"TornReeds$Sheet", "startOfRun", "(II)I"⟩, 5), (⟨"TornReeds", "looseBit", "(I)LTornReeds$Bit;"⟩, 7), (⟨"TornReeds$Sheet", "taken", "(II)I"⟩, 5), (⟨"TornReeds$Places", "add", "(IIIZ)V"⟩, 5), (⟨"TornReeds$Search", "weigh", "(LTornReeds$Bit;ILTornReeds$Bit;ILTornReeds$Sheet;LTornReeds$WordList;)V"⟩, 7), (⟨"TornReeds$Search", "gainOf", "(II)I"⟩, 7), (⟨"TornReeds$Pairing", "columnsMeet", "(I)Z"⟩, 3), (⟨"TornReeds$Roll", "stoodBy", "(LTornReeds$Bit;I)Z"⟩, 2), (⟨"TornReeds$KnownText", "firstShift", "(LTornReeds$Bit;I)I"⟩, 2), (⟨"TornReeds$KnownText", "standsAt", "(LTornReeds$Bit;II)Z"⟩, 2)]
theorem lw_r1 : ∀ q ∈ lw_privs_1, lw_okq q := List.forall_mem_cons.mpr ⟨lw_p0, List.forall_mem_cons.mpr ⟨lw_p1, List.forall_mem_cons.mpr ⟨lw_p2, List.forall_mem_cons.mpr ⟨lw_p3, List.forall_mem_cons.mpr ⟨lw_p4, List.forall_mem_cons.mpr ⟨lw_p5, List.forall_mem_cons.mpr ⟨lw_p6, List.forall_mem_cons.mpr ⟨lw_p7, List.forall_mem_cons.mpr ⟨lw_p8, List.forall_mem_cons.mpr ⟨lw_p9, List.forall_mem_cons.mpr ⟨lw_p10, List.forall_mem_cons.mpr ⟨lw_p11, List.forall_mem_cons.mpr ⟨lw_p12, List.forall_mem_cons.mpr ⟨lw_p13, List.forall_mem_cons.mpr ⟨lw_p14, List.forall_mem_cons.mpr ⟨lw_p15, fun _ h => absurd h List.not_mem_nil⟩⟩⟩⟩⟩⟩⟩⟩⟩⟩⟩⟩⟩⟩⟩⟩
theorem lw_p16 : lw_okq (⟨"TornReeds$KnownText", "agrees", "(II)Z"⟩, 2) := ⟨⟨by decide +kernel, by decide +kernel⟩, List.mem_of_getElem? (i := 301) (by decide +kernel), List.mem_of_getElem? (i := 730) (by decide +kernel), List.mem_of_getElem? (i := 731) (by decide +kernel)⟩
theorem lw_p17 : lw_okq (⟨"TornReedsModel", "reads", "(I)I"⟩, 30) := ⟨⟨by decide +kernel, by decide +kernel⟩, List.mem_of_getElem? (i := 746) (by decide +kernel), List.mem_of_getElem? (i := 858) (by decide +kernel), List.mem_of_getElem? (i := 859) (by decide +kernel)⟩
theorem lw_p18 : lw_okq (⟨"TornReedsModel", "isBit", "(I)Z"⟩, 30) := ⟨⟨by decide +kernel, by decide +kernel⟩, List.mem_of_getElem? (i := 746) (by decide +kernel), List.mem_of_getElem? (i := 869) (by decide +kernel), List.mem_of_getElem? (i := 870) (by decide +kernel)⟩
theorem lw_p19 : lw_okq (⟨"TornReedsModel", "puts", "(III)V"⟩, 30) := ⟨⟨by decide +kernel, by decide +kernel⟩, List.mem_of_getElem? (i := 746) (by decide +kernel), List.mem_of_getElem? (i := 885) (by decide +kernel), List.mem_of_getElem? (i := 886) (by decide +kernel)⟩
theorem lw_p20 : lw_okq (⟨"TornReedsModel", "mayLie", "()Z"⟩, 30) := ⟨⟨by decide +kernel, by decide +kernel⟩, List.mem_of_getElem? (i := 746) (by decide +kernel), List.mem_of_getElem? (i := 889) (by decide +kernel), List.mem_of_getElem? (i := 890) (by decide +kernel)⟩
theorem lw_p21 : lw_okq (⟨"TornReedsModel", "laysAll", "()Z"⟩, 30) := ⟨⟨by decide +kernel, by decide +kernel⟩, List.mem_of_getElem? (i := 746) (by decide +kernel), List.mem_of_getElem? (i := 893) (by decide +kernel), List.mem_of_getElem? (i := 894) (by decide +kernel)⟩
theorem lw_p22 : lw_okq (⟨"TornReedsModel", "lays", "(I)Z"⟩, 30) := ⟨⟨by decide +kernel, by decide +kernel⟩, List.mem_of_getElem? (i := 746) (by decide +kernel), List.mem_of_getElem? (i := 897) (by decide +kernel), List.mem_of_getElem? (i := 898) (by decide +kernel)⟩
theorem lw_p23 : lw_okq (⟨"TornReedsModel", "at", "(III)I"⟩, 30) := ⟨⟨by decide +kernel, by decide +kernel⟩, List.mem_of_getElem? (i := 746) (by decide +kernel), List.mem_of_getElem? (i := 901) (by decide +kernel), List.mem_of_getElem? (i := 902) (by decide +kernel)⟩
theorem lw_p24 : lw_okq (⟨"TornReedsModel", "quarrel", "(II)Z"⟩, 30) := ⟨⟨by decide +kernel, by decide +kernel⟩, List.mem_of_getElem? (i := 746) (by decide +kernel), List.mem_of_getElem? (i := 905) (by decide +kernel), List.mem_of_getElem? (i := 906) (by decide +kernel)⟩
theorem lw_p25 : lw_okq (⟨"TornReedsModel", "acrossOf", "(III)I"⟩, 30) := ⟨⟨by decide +kernel, by decide +kernel⟩, List.mem_of_getElem? (i := 746) (by decide +kernel), List.mem_of_getElem? (i := 909) (by decide +kernel), List.mem_of_getElem? (i := 910) (by decide +kernel)⟩
theorem lw_p26 : lw_okq (⟨"TornReedsModel", "hasInRow", "(II)Z"⟩, 30) := ⟨⟨by decide +kernel, by decide +kernel⟩, List.mem_of_getElem? (i := 746) (by decide +kernel), List.mem_of_getElem? (i := 913) (by decide +kernel), List.mem_of_getElem? (i := 914) (by decide +kernel)⟩
theorem lw_p27 : lw_okq (⟨"TornReedsModel", "downOf", "(III)I"⟩, 30) := ⟨⟨by decide +kernel, by decide +kernel⟩, List.mem_of_getElem? (i := 746) (by decide +kernel), List.mem_of_getElem? (i := 917) (by decide +kernel), List.mem_of_getElem? (i := 918) (by decide +kernel)⟩
theorem lw_p28 : lw_okq (⟨"TornReedsModel", "hasInColumn", "(II)Z"⟩, 30) := ⟨⟨by decide +kernel, by decide +kernel⟩, List.mem_of_getElem? (i := 746) (by decide +kernel), List.mem_of_getElem? (i := 921) (by decide +kernel), List.mem_of_getElem? (i := 922) (by decide +kernel)⟩
theorem lw_p29 : lw_okq (⟨"TornReedsModel", "runsCan", "()Z"⟩, 30) := ⟨⟨by decide +kernel, by decide +kernel⟩, List.mem_of_getElem? (i := 746) (by decide +kernel), List.mem_of_getElem? (i := 925) (by decide +kernel), List.mem_of_getElem? (i := 926) (by decide +kernel)⟩
theorem lw_p30 : lw_okq (⟨"TornReedsModel", "isInk", "(I)Z"⟩, 30) := ⟨⟨by decide +kernel, by decide +kernel⟩, List.mem_of_getElem? (i := 746) (by decide +kernel), List.mem_of_getElem? (i := 929) (by decide +kernel), List.mem_of_getElem? (i := 930) (by decide +kernel)⟩
theorem lw_p31 : lw_okq (⟨"TornReedsModel", "runAt", "(II)V"⟩, 30) := ⟨⟨by decide +kernel, by decide +kernel⟩, List.mem_of_getElem? (i := 746) (by decide +kernel), List.mem_of_getElem? (i := 933) (by decide +kernel), List.mem_of_getElem? (i := 934) (by decide +kernel)⟩
def lw_privs_2 : List (MethodName × Nat) := [(⟨"TornReeds$KnownText", "agrees", "(II)Z"⟩, 2), (⟨"TornReedsModel", "reads", "(I)I"⟩, 30), (⟨"TornReedsModel", "isBit", "(I)Z"⟩, 30), (⟨"TornReedsModel", "puts", "(III)V"⟩, 30), (⟨"TornReedsModel", "mayLie", "()Z"⟩, 30), (⟨"TornReedsModel", "laysAll", "()Z"⟩, 30), (⟨"TornReedsModel", "lays", "(I)Z"⟩, 30), (⟨"TornReedsModel", "at", "(III)I"⟩, 30), (⟨"TornReedsModel", "quarrel", "(II)Z"⟩, 30), (⟨"TornReedsModel", "acrossOf", "(III)I"⟩, 30), (⟨"TornReedsModel", "hasInRow", "(II)Z"⟩, 30), (⟨"TornReedsModel", "downOf", "(III)I"⟩, 30), (⟨"TornReedsModel", "hasInColumn", "(II)Z"⟩, 30), (⟨"TornReedsModel", "runsCan", "()Z"⟩, 30), (⟨"TornReedsModel", "isInk", "(I)Z"⟩, 30), (⟨"TornReedsModel", "runAt", "(II)V"⟩, 30)]
theorem lw_r2 : ∀ q ∈ lw_privs_2, lw_okq q := List.forall_mem_cons.mpr ⟨lw_p16, List.forall_mem_cons.mpr ⟨lw_p17, List.forall_mem_cons.mpr ⟨lw_p18, List.forall_mem_cons.mpr ⟨lw_p19, List.forall_mem_cons.mpr ⟨lw_p20, List.forall_mem_cons.mpr ⟨lw_p21, List.forall_mem_cons.mpr ⟨lw_p22, List.forall_mem_cons.mpr ⟨lw_p23, List.forall_mem_cons.mpr ⟨lw_p24, List.forall_mem_cons.mpr ⟨lw_p25, List.forall_mem_cons.mpr ⟨lw_p26, List.forall_mem_cons.mpr ⟨lw_p27, List.forall_mem_cons.mpr ⟨lw_p28, List.forall_mem_cons.mpr ⟨lw_p29, List.forall_mem_cons.mpr ⟨lw_p30, List.forall_mem_cons.mpr ⟨lw_p31, fun _ h => absurd h List.not_mem_nil⟩⟩⟩⟩⟩⟩⟩⟩⟩⟩⟩⟩⟩⟩⟩⟩
theorem lw_p32 : lw_okq (⟨"TornReedsModel", "canAny", "()Z"⟩, 30) := ⟨⟨by decide +kernel, by decide +kernel⟩, List.mem_of_getElem? (i := 746) (by decide +kernel), List.mem_of_getElem? (i := 937) (by decide +kernel), List.mem_of_getElem? (i := 938) (by decide +kernel)⟩
theorem lw_p33 : lw_okq (⟨"TornReedsModel", "canBe", "(I)Z"⟩, 30) := ⟨⟨by decide +kernel, by decide +kernel⟩, List.mem_of_getElem? (i := 746) (by decide +kernel), List.mem_of_getElem? (i := 941) (by decide +kernel), List.mem_of_getElem? (i := 942) (by decide +kernel)⟩
theorem lw_p34 : lw_okq (⟨"TornReedsModel", "isFrom", "(II)Z"⟩, 30) := ⟨⟨by decide +kernel, by decide +kernel⟩, List.mem_of_getElem? (i := 746) (by decide +kernel), List.mem_of_getElem? (i := 945) (by decide +kernel), List.mem_of_getElem? (i := 946) (by decide +kernel)⟩
theorem lw_p35 : lw_okq (⟨"TornReedsModel", "hasRun", "(II)Z"⟩, 30) := ⟨⟨by decide +kernel, by decide +kernel⟩, List.mem_of_getElem? (i := 746) (by decide +kernel), List.mem_of_getElem? (i := 972) (by decide +kernel), List.mem_of_getElem? (i := 973) (by decide +kernel)⟩
theorem lw_p36 : lw_okq (⟨"TornReedsModel", "worthNow", "()I"⟩, 30) := ⟨⟨by decide +kernel, by decide +kernel⟩, List.mem_of_getElem? (i := 746) (by decide +kernel), List.mem_of_getElem? (i := 984) (by decide +kernel), List.mem_of_getElem? (i := 985) (by decide +kernel)⟩
theorem lw_p37 : lw_okq (⟨"TornReedsModel", "worthOf", "(II)I"⟩, 30) := ⟨⟨by decide +kernel, by decide +kernel⟩, List.mem_of_getElem? (i := 746) (by decide +kernel), List.mem_of_getElem? (i := 988) (by decide +kernel), List.mem_of_getElem? (i := 989) (by decide +kernel)⟩
theorem lw_p38 : lw_okq (⟨"TornReedsModel", "sides", "(II)I"⟩, 30) := ⟨⟨by decide +kernel, by decide +kernel⟩, List.mem_of_getElem? (i := 746) (by decide +kernel), List.mem_of_getElem? (i := 992) (by decide +kernel), List.mem_of_getElem? (i := 993) (by decide +kernel)⟩
theorem lw_p39 : lw_okq (⟨"TornReedsModel", "mayJoin", "(I)Z"⟩, 30) := ⟨⟨by decide +kernel, by decide +kernel⟩, List.mem_of_getElem? (i := 746) (by decide +kernel), List.mem_of_getElem? (i := 1000) (by decide +kernel), List.mem_of_getElem? (i := 1001) (by decide +kernel)⟩
theorem lw_p40 : lw_okq (⟨"TornReedsModel", "anyLies", "()Z"⟩, 30) := ⟨⟨by decide +kernel, by decide +kernel⟩, List.mem_of_getElem? (i := 746) (by decide +kernel), List.mem_of_getElem? (i := 1004) (by decide +kernel), List.mem_of_getElem? (i := 1005) (by decide +kernel)⟩
theorem lw_p41 : lw_okq (⟨"TornReedsModel", "tries", "(II)I"⟩, 30) := ⟨⟨by decide +kernel, by decide +kernel⟩, List.mem_of_getElem? (i := 746) (by decide +kernel), List.mem_of_getElem? (i := 1008) (by decide +kernel), List.mem_of_getElem? (i := 1009) (by decide +kernel)⟩
theorem lw_p42 : lw_okq (⟨"TornReedsModel", "notesEarly", "()V"⟩, 30) := ⟨⟨by decide +kernel, by decide +kernel⟩, List.mem_of_getElem? (i := 746) (by decide +kernel), List.mem_of_getElem? (i := 1012) (by decide +kernel), List.mem_of_getElem? (i := 1013) (by decide +kernel)⟩
theorem lw_p43 : lw_okq (⟨"TornReedsModel", "fits", "(I)I"⟩, 30) := ⟨⟨by decide +kernel, by decide +kernel⟩, List.mem_of_getElem? (i := 746) (by decide +kernel), List.mem_of_getElem? (i := 1025) (by decide +kernel), List.mem_of_getElem? (i := 1026) (by decide +kernel)⟩
theorem lw_p44 : lw_okq (⟨"TornReedsModel", "seconds", "(IIII)V"⟩, 30) := ⟨⟨by decide +kernel, by decide +kernel⟩, List.mem_of_getElem? (i := 746) (by decide +kernel), List.mem_of_getElem? (i := 1029) (by decide +kernel), List.mem_of_getElem? (i := 1030) (by decide +kernel)⟩
theorem lw_p45 : lw_okq (⟨"TornReedsModel", "mayTouch", "(IIII)Z"⟩, 30) := ⟨⟨by decide +kernel, by decide +kernel⟩, List.mem_of_getElem? (i := 746) (by decide +kernel), List.mem_of_getElem? (i := 1033) (by decide +kernel), List.mem_of_getElem? (i := 1034) (by decide +kernel)⟩
theorem lw_p46 : lw_okq (⟨"TornReedsModel", "holds", "(IIII)V"⟩, 30) := ⟨⟨by decide +kernel, by decide +kernel⟩, List.mem_of_getElem? (i := 746) (by decide +kernel), List.mem_of_getElem? (i := 1037) (by decide +kernel), List.mem_of_getElem? (i := 1038) (by decide +kernel)⟩
theorem lw_p47 : lw_okq (⟨"TornReedsModel", "mayStand", "(I)Z"⟩, 30) := ⟨⟨by decide +kernel, by decide +kernel⟩, List.mem_of_getElem? (i := 746) (by decide +kernel), List.mem_of_getElem? (i := 1057) (by decide +kernel), List.mem_of_getElem? (i := 1058) (by decide +kernel)⟩
def lw_privs_3 : List (MethodName × Nat) := [(⟨"TornReedsModel", "canAny", "()Z"⟩, 30), (⟨"TornReedsModel", "canBe", "(I)Z"⟩, 30), (⟨"TornReedsModel", "isFrom", "(II)Z"⟩, 30), (⟨"TornReedsModel", "hasRun", "(II)Z"⟩, 30), (⟨"TornReedsModel", "worthNow", "()I"⟩, 30), (⟨"TornReedsModel", "worthOf", "(II)I"⟩, 30), (⟨"TornReedsModel", "sides", "(II)I"⟩, 30), (⟨"TornReedsModel", "mayJoin", "(I)Z"⟩, 30), (⟨"TornReedsModel", "anyLies", "()Z"⟩, 30), (⟨"TornReedsModel", "tries", "(II)I"⟩, 30), (⟨"TornReedsModel", "notesEarly", "()V"⟩, 30), (⟨"TornReedsModel", "fits", "(I)I"⟩, 30), (⟨"TornReedsModel", "seconds", "(IIII)V"⟩, 30), (⟨"TornReedsModel", "mayTouch", "(IIII)Z"⟩, 30), (⟨"TornReedsModel", "holds", "(IIII)V"⟩, 30), (⟨"TornReedsModel", "mayStand", "(I)Z"⟩, 30)]
theorem lw_r3 : ∀ q ∈ lw_privs_3, lw_okq q := List.forall_mem_cons.mpr ⟨lw_p32, List.forall_mem_cons.mpr ⟨lw_p33, List.forall_mem_cons.mpr ⟨lw_p34, List.forall_mem_cons.mpr ⟨lw_p35, List.forall_mem_cons.mpr ⟨lw_p36, List.forall_mem_cons.mpr ⟨lw_p37, List.forall_mem_cons.mpr ⟨lw_p38, List.forall_mem_cons.mpr ⟨lw_p39, List.forall_mem_cons.mpr ⟨lw_p40, List.forall_mem_cons.mpr ⟨lw_p41, List.forall_mem_cons.mpr ⟨lw_p42, List.forall_mem_cons.mpr ⟨lw_p43, List.forall_mem_cons.mpr ⟨lw_p44, List.forall_mem_cons.mpr ⟨lw_p45, List.forall_mem_cons.mpr ⟨lw_p46, List.forall_mem_cons.mpr ⟨lw_p47, fun _ h => absurd h List.not_mem_nil⟩⟩⟩⟩⟩⟩⟩⟩⟩⟩⟩⟩⟩⟩⟩⟩
theorem lw_p48 : lw_okq (⟨"TornReedsModel", "stoods", "(II)I"⟩, 30) := ⟨⟨by decide +kernel, by decide +kernel⟩, List.mem_of_getElem? (i := 746) (by decide +kernel), List.mem_of_getElem? (i := 1061) (by decide +kernel), List.mem_of_getElem? (i := 1062) (by decide +kernel)⟩
theorem lw_p49 : lw_okq (⟨"TornReedsModel", "stoodAt", "(II)Z"⟩, 30) := ⟨⟨by decide +kernel, by decide +kernel⟩, List.mem_of_getElem? (i := 746) (by decide +kernel), List.mem_of_getElem? (i := 1065) (by decide +kernel), List.mem_of_getElem? (i := 1066) (by decide +kernel)⟩
theorem lw_p50 : lw_okq (⟨"TornReedsModel", "standsBy", "(III)I"⟩, 30) := ⟨⟨by decide +kernel, by decide +kernel⟩, List.mem_of_getElem? (i := 746) (by decide +kernel), List.mem_of_getElem? (i := 1081) (by decide +kernel), List.mem_of_getElem? (i := 1082) (by decide +kernel)⟩
theorem lw_p51 : lw_okq (⟨"TornReedsModel", "hasInk", "(I)Z"⟩, 30) := ⟨⟨by decide +kernel, by decide +kernel⟩, List.mem_of_getElem? (i := 746) (by decide +kernel), List.mem_of_getElem? (i := 1085) (by decide +kernel), List.mem_of_getElem? (i := 1086) (by decide +kernel)⟩
theorem lw_p52 : lw_okq (⟨"TornReedsModel", "standsAt", "(III)Z"⟩, 30) := ⟨⟨by decide +kernel, by decide +kernel⟩, List.mem_of_getElem? (i := 746) (by decide +kernel), List.mem_of_getElem? (i := 1089) (by decide +kernel), List.mem_of_getElem? (i := 1090) (by decide +kernel)⟩
def lw_privs_4 : List (MethodName × Nat) := [(⟨"TornReedsModel", "stoods", "(II)I"⟩, 30), (⟨"TornReedsModel", "stoodAt", "(II)Z"⟩, 30), (⟨"TornReedsModel", "standsBy", "(III)I"⟩, 30), (⟨"TornReedsModel", "hasInk", "(I)Z"⟩, 30), (⟨"TornReedsModel", "standsAt", "(III)Z"⟩, 30)]
theorem lw_r4 : ∀ q ∈ lw_privs_4, lw_okq q := List.forall_mem_cons.mpr ⟨lw_p48, List.forall_mem_cons.mpr ⟨lw_p49, List.forall_mem_cons.mpr ⟨lw_p50, List.forall_mem_cons.mpr ⟨lw_p51, List.forall_mem_cons.mpr ⟨lw_p52, fun _ h => absurd h List.not_mem_nil⟩⟩⟩⟩⟩
def lw_privs : List (MethodName × Nat) := lw_privs_1 ++ (lw_privs_2 ++ (lw_privs_3 ++ (lw_privs_4)))
def lw_tbl : List Cond := k2_sels lw_privs ++ tables_1
theorem lw_privs_ok : ∀ q ∈ lw_privs, lw_okq q := by
  show ∀ q ∈ lw_privs_1 ++ (lw_privs_2 ++ (lw_privs_3 ++ (lw_privs_4))), lw_okq q
  exact List.forall_mem_append.mpr ⟨lw_r1, List.forall_mem_append.mpr ⟨lw_r2, List.forall_mem_append.mpr ⟨lw_r3, lw_r4⟩⟩⟩
-- ===== end of PART A; then your names; then what follows =====
end
section
/-! ===== BEGIN words of one list among another's, by their places ===== -/
theorem goodIn_r {big : List Cond} (ws : List Cond) (ps : List Nat) (hp : ws = ps.filterMap (fun i => big[i]?)) (h : ws.all goodWord = true) : GoodIn big ws := by
  intro w hw
  have h1 := List.all_eq_true.mp h w hw
  rw [hp] at hw
  obtain ⟨i, -, hi⟩ := List.mem_filterMap.mp hw
  have hm : w ∈ big := by first | exact List.mem_of_getElem? hi | exact List.getElem?_mem hi
  exact ⟨hm, good_of_word h1⟩
theorem goodIn_app {big a b : List Cond} (ha : GoodIn big a) (hb : GoodIn big b) : GoodIn big (a ++ b) := fun w h => (List.mem_append.mp h).elim (ha w) (hb w)
theorem goodIn_ca {big a b : List Cond} {c : Cond} (ha : GoodIn big (c :: a)) (hb : GoodIn big b) : GoodIn big (c :: (a ++ b)) := fun w h => (List.mem_cons.mp h).elim (fun e => ha w (List.mem_cons.mpr (Or.inl e))) (fun h => (List.mem_append.mp h).elim (fun h => ha w (List.mem_cons.mpr (Or.inr h))) (hb w))
theorem goodIn_sub {big ws : List Cond} (hm : ∀ w ∈ ws, w ∈ big) (h : ws.all goodWord = true) : GoodIn big ws := fun w hw => ⟨hm w hw, good_of_word (List.all_eq_true.mp h w hw)⟩
/-! ===== END ===== -/
def RX0 : String := "TornReeds$Bit"
def TX0 : u_T := fun k => match k with
  | 0 => ("TornReeds$Bit", "number", "I", true)
  | 1 => ("TornReeds$Bit", "signs", "[I", true)
  | 2 => ("TornReeds$Bit", "cellRows", "[I", true)
  | 3 => ("TornReeds$Bit", "cellColumns", "[I", true)
  | 4 => ("TornReeds$Bit", "cells", "I", false)
  | 5 => ("TornReeds$Bit", "firstColumns", "[I", true)
  | 6 => ("TornReeds$Bit", "lastColumns", "[I", true)
  | 7 => ("TornReeds$Bit", "firstText", "I", false)
  | 8 => ("TornReeds$Bit", "lastTextColumn", "I", false)
  | 9 => ("TornReeds$Bit", "across", "LTornReeds$Fibres;", true)
  | 10 => ("TornReeds$Bit", "down", "LTornReeds$Fibres;", true)
  | 11 => ("TornReeds$Bit", "holes", "[I", true)
  | 12 => ("TornReeds$Bit", "holeCount", "I", false)
  | 13 => ("TornReeds$Bit", "lies", "Z", false)
  | 14 => ("TornReeds$Bit", "row", "I", false)
  | _ => ("TornReeds$Bit", "column", "I", false)
def tyX0 : Nat → FieldType := fun k => match k with
  | 0 => .int
  | 1 => .array .int
  | 2 => .array .int
  | 3 => .array .int
  | 4 => .int
  | 5 => .array .int
  | 6 => .array .int
  | 7 => .int
  | 8 => .int
  | 9 => .object "TornReeds$Fibres"
  | 10 => .object "TornReeds$Fibres"
  | 11 => .array .int
  | 12 => .int
  | 13 => .boolean
  | 14 => .int
  | _ => .int
abbrev wsX00 : List Cond := u_ws RX0 TX0 16
theorem nmX0 : ∀ a, a < 16 → ∀ b, b < 16 → a ≠ b → (TX0 a).2.1 ≠ (TX0 b).2.1 := by decide +kernel
theorem tyX0_ok : ∀ k, k < 16 → parseFieldDescriptor (TX0 k).2.2.1 = some (tyX0 k) := by decide +kernel
abbrev cX0_init : ByteArray := prog_2_method_1_code
def yX0_init : MethodName := ⟨RX0, "<init>", "(I)V"⟩
abbrev cX0_cellsTold : ByteArray := prog_2_method_2_code
def yX0_cellsTold : MethodName := ⟨RX0, "cellsTold", "(LTornReeds$Tape;)I"⟩
abbrev cX0_isSign : ByteArray := prog_2_method_3_code
def yX0_isSign : MethodName := ⟨RX0, "isSign", "(I)Z"⟩
abbrev cX0_become : ByteArray := prog_2_method_4_code
def yX0_become : MethodName := ⟨RX0, "become", "(LTornReeds$Tape;)V"⟩
abbrev cX0_clear : ByteArray := prog_2_method_5_code
def yX0_clear : MethodName := ⟨RX0, "clear", "()V"⟩
abbrev cX0_addCell : ByteArray := prog_2_method_6_code
def yX0_addCell : MethodName := ⟨RX0, "addCell", "(III)V"⟩
abbrev cX0_hasCell : ByteArray := prog_2_method_7_code
def yX0_hasCell : MethodName := ⟨RX0, "hasCell", "(II)Z"⟩
abbrev cX0_addHole : ByteArray := prog_2_method_8_code
def yX0_addHole : MethodName := ⟨RX0, "addHole", "(I)I"⟩
def RX1 : String := "TornReeds$Fibres"
def TX1 : u_T := fun k => match k with
  | 0 => ("TornReeds$Fibres", "numbers", "[I", true)
  | _ => ("TornReeds$Fibres", "reached", "[Z", true)
def tyX1 : Nat → FieldType := fun k => match k with
  | 0 => .array .int
  | _ => .array .boolean
abbrev wsX10 : List Cond := u_ws RX1 TX1 2
theorem nmX1 : ∀ a, a < 2 → ∀ b, b < 2 → a ≠ b → (TX1 a).2.1 ≠ (TX1 b).2.1 := by decide +kernel
theorem tyX1_ok : ∀ k, k < 2 → parseFieldDescriptor (TX1 k).2.2.1 = some (tyX1 k) := by decide +kernel
abbrev cX1_init : ByteArray := prog_3_method_1_code
def yX1_init : MethodName := ⟨RX1, "<init>", "(I)V"⟩
abbrev cX1_clear : ByteArray := prog_3_method_2_code
def yX1_clear : MethodName := ⟨RX1, "clear", "()V"⟩
abbrev cX1_told : ByteArray := prog_3_method_3_code
def yX1_told : MethodName := ⟨RX1, "told", "(I)I"⟩
abbrev cX1_worthBeside : ByteArray := prog_3_method_4_code
def yX1_worthBeside : MethodName := ⟨RX1, "worthBeside", "(LTornReeds$Fibres;I)I"⟩
def RX2 : String := "TornReeds$KnownText"
def TX2 : u_T := fun k => match k with
  | 0 => ("TornReeds$KnownText", "letters", "[I", true)
  | _ => ("TornReeds$KnownText", "length", "I", false)
def tyX2 : Nat → FieldType := fun k => match k with
  | 0 => .array .int
  | _ => .int
abbrev wsX20 : List Cond := u_ws RX2 TX2 2
theorem nmX2 : ∀ a, a < 2 → ∀ b, b < 2 → a ≠ b → (TX2 a).2.1 ≠ (TX2 b).2.1 := by decide +kernel
theorem tyX2_ok : ∀ k, k < 2 → parseFieldDescriptor (TX2 k).2.2.1 = some (tyX2 k) := by decide +kernel
abbrev cX2_init : ByteArray := prog_4_method_1_code
def yX2_init : MethodName := ⟨RX2, "<init>", "()V"⟩
abbrev cX2_become : ByteArray := prog_4_method_2_code
def yX2_become : MethodName := ⟨RX2, "become", "(LTornReeds$Tape;)V"⟩
abbrev cX2_countTimes : ByteArray := prog_4_method_3_code
def yX2_countTimes : MethodName := ⟨RX2, "countTimes", "(LTornReeds$Bit;I)I"⟩
abbrev cX2_timeOf : ByteArray := prog_4_method_4_code
def yX2_timeOf : MethodName := ⟨RX2, "timeOf", "(LTornReeds$Bit;II)I"⟩
abbrev cX2_firstShift : ByteArray := prog_4_method_5_code
def yX2_firstShift : MethodName := ⟨RX2, "firstShift", "(LTornReeds$Bit;I)I"⟩
abbrev cX2_standsAt : ByteArray := prog_4_method_6_code
def yX2_standsAt : MethodName := ⟨RX2, "standsAt", "(LTornReeds$Bit;II)Z"⟩
abbrev cX2_agrees : ByteArray := prog_4_method_7_code
def yX2_agrees : MethodName := ⟨RX2, "agrees", "(II)Z"⟩
def RX3 : String := "TornReeds$Lanes"
def TX3 : u_T := fun k => match k with
  | 0 => ("TornReeds$Lanes", "numbers", "[I", true)
  | _ => ("TornReeds$Lanes", "tellers", "[I", true)
def tyX3 : Nat → FieldType := fun k => match k with
  | 0 => .array .int
  | _ => .array .int
abbrev wsX30 : List Cond := u_ws RX3 TX3 2
theorem nmX3 : ∀ a, a < 2 → ∀ b, b < 2 → a ≠ b → (TX3 a).2.1 ≠ (TX3 b).2.1 := by decide +kernel
theorem tyX3_ok : ∀ k, k < 2 → parseFieldDescriptor (TX3 k).2.2.1 = some (tyX3 k) := by decide +kernel
abbrev cX3_init : ByteArray := prog_5_method_1_code
def yX3_init : MethodName := ⟨RX3, "<init>", "(I)V"⟩
abbrev cX3_has : ByteArray := prog_5_method_2_code
def yX3_has : MethodName := ⟨RX3, "has", "(I)Z"⟩
abbrev cX3_worthOf : ByteArray := prog_5_method_3_code
def yX3_worthOf : MethodName := ⟨RX3, "worthOf", "(LTornReeds$Fibres;I)I"⟩
abbrev cX3_change : ByteArray := prog_5_method_4_code
def yX3_change : MethodName := ⟨RX3, "change", "(LTornReeds$Fibres;II)V"⟩
abbrev cX3_pairsWorth : ByteArray := prog_5_method_5_code
def yX3_pairsWorth : MethodName := ⟨RX3, "pairsWorth", "()I"⟩
def RX4 : String := "TornReeds$Pairing"
def TX4 : u_T := fun k => match k with
  | 0 => ("TornReeds$Pairing", "sides", "[I", true)
  | 1 => ("TornReeds$Pairing", "acrossWorth", "[I", true)
  | _ => ("TornReeds$Pairing", "downWorth", "[I", true)
def tyX4 : Nat → FieldType := fun k => match k with
  | 0 => .array .int
  | 1 => .array .int
  | _ => .array .int
abbrev wsX40 : List Cond := u_ws RX4 TX4 3
theorem nmX4 : ∀ a, a < 3 → ∀ b, b < 3 → a ≠ b → (TX4 a).2.1 ≠ (TX4 b).2.1 := by decide +kernel
theorem tyX4_ok : ∀ k, k < 3 → parseFieldDescriptor (TX4 k).2.2.1 = some (tyX4 k) := by decide +kernel
abbrev cX4_init : ByteArray := prog_6_method_1_code
def yX4_init : MethodName := ⟨RX4, "<init>", "()V"⟩
abbrev cX4_compare : ByteArray := prog_6_method_2_code
def yX4_compare : MethodName := ⟨RX4, "compare", "(LTornReeds$Bit;LTornReeds$Bit;)V"⟩
abbrev cX4_countSides : ByteArray := prog_6_method_3_code
def yX4_countSides : MethodName := ⟨RX4, "countSides", "(LTornReeds$Bit;LTornReeds$Bit;II)I"⟩
abbrev cX4_one : ByteArray := prog_6_method_4_code
def yX4_one : MethodName := ⟨RX4, "one", "(Z)I"⟩
abbrev cX4_sidesAt : ByteArray := prog_6_method_5_code
def yX4_sidesAt : MethodName := ⟨RX4, "sidesAt", "(II)I"⟩
abbrev cX4_acrossAt : ByteArray := prog_6_method_6_code
def yX4_acrossAt : MethodName := ⟨RX4, "acrossAt", "(I)I"⟩
abbrev cX4_downAt : ByteArray := prog_6_method_7_code
def yX4_downAt : MethodName := ⟨RX4, "downAt", "(I)I"⟩
abbrev cX4_rowsMeet : ByteArray := prog_6_method_8_code
def yX4_rowsMeet : MethodName := ⟨RX4, "rowsMeet", "(I)Z"⟩
abbrev cX4_columnsMeet : ByteArray := prog_6_method_9_code
def yX4_columnsMeet : MethodName := ⟨RX4, "columnsMeet", "(I)Z"⟩
def RX5 : String := "TornReeds$Places"
def TX5 : u_T := fun k => match k with
  | 0 => ("TornReeds$Places", "rows", "[I", true)
  | 1 => ("TornReeds$Places", "columns", "[I", true)
  | 2 => ("TornReeds$Places", "gains", "[I", true)
  | 3 => ("TornReeds$Places", "touching", "[Z", true)
  | _ => ("TornReeds$Places", "count", "I", false)
def tyX5 : Nat → FieldType := fun k => match k with
  | 0 => .array .int
  | 1 => .array .int
  | 2 => .array .int
  | 3 => .array .boolean
  | _ => .int
abbrev wsX50 : List Cond := u_ws RX5 TX5 5
theorem nmX5 : ∀ a, a < 5 → ∀ b, b < 5 → a ≠ b → (TX5 a).2.1 ≠ (TX5 b).2.1 := by decide +kernel
theorem tyX5_ok : ∀ k, k < 5 → parseFieldDescriptor (TX5 k).2.2.1 = some (tyX5 k) := by decide +kernel
abbrev cX5_init : ByteArray := prog_7_method_1_code
def yX5_init : MethodName := ⟨RX5, "<init>", "()V"⟩
abbrev cX5_collect : ByteArray := prog_7_method_2_code
def yX5_collect : MethodName := ⟨RX5, "collect", "(LTornReeds$Bit;ZLTornReeds$Sheet;LTornReeds$WordList;)V"⟩
abbrev cX5_add : ByteArray := prog_7_method_3_code
def yX5_add : MethodName := ⟨RX5, "add", "(IIIZ)V"⟩
abbrev cX5_best : ByteArray := prog_7_method_4_code
def yX5_best : MethodName := ⟨RX5, "best", "()I"⟩
abbrev cX5_listTouching : ByteArray := prog_7_method_5_code
def yX5_listTouching : MethodName := ⟨RX5, "listTouching", "([I)I"⟩
def RX6 : String := "TornReeds$Roll"
def TX6 : u_T := fun k => match k with
  | 0 => ("TornReeds$Roll", "places", "[I", true)
  | _ => ("TornReeds$Roll", "count", "I", false)
def tyX6 : Nat → FieldType := fun k => match k with
  | 0 => .array .int
  | _ => .int
abbrev wsX60 : List Cond := u_ws RX6 TX6 2
theorem nmX6 : ∀ a, a < 2 → ∀ b, b < 2 → a ≠ b → (TX6 a).2.1 ≠ (TX6 b).2.1 := by decide +kernel
theorem tyX6_ok : ∀ k, k < 2 → parseFieldDescriptor (TX6 k).2.2.1 = some (tyX6 k) := by decide +kernel
abbrev cX6_init : ByteArray := prog_8_method_1_code
def yX6_init : MethodName := ⟨RX6, "<init>", "()V"⟩
abbrev cX6_bore : ByteArray := prog_8_method_2_code
def yX6_bore : MethodName := ⟨RX6, "bore", "(II)V"⟩
abbrev cX6_stoodBy : ByteArray := prog_8_method_3_code
def yX6_stoodBy : MethodName := ⟨RX6, "stoodBy", "(LTornReeds$Bit;I)Z"⟩
abbrev cX6_countPlaces : ByteArray := prog_8_method_4_code
def yX6_countPlaces : MethodName := ⟨RX6, "countPlaces", "(LTornReeds$Bit;)I"⟩
abbrev cX6_placeOf : ByteArray := prog_8_method_5_code
def yX6_placeOf : MethodName := ⟨RX6, "placeOf", "(LTornReeds$Bit;I)I"⟩
def RX7 : String := "TornReeds$Search"
def TX7 : u_T := fun k => match k with
  | 0 => ("TornReeds$Search", "firstPlaces", "LTornReeds$Places;", true)
  | 1 => ("TornReeds$Search", "secondPlaces", "LTornReeds$Places;", true)
  | 2 => ("TornReeds$Search", "touched", "[I", true)
  | 3 => ("TornReeds$Search", "pairing", "LTornReeds$Pairing;", true)
  | 4 => ("TornReeds$Search", "bestGain", "I", false)
  | 5 => ("TornReeds$Search", "bestFirst", "I", false)
  | _ => ("TornReeds$Search", "bestSecond", "I", false)
def tyX7 : Nat → FieldType := fun k => match k with
  | 0 => .object "TornReeds$Places"
  | 1 => .object "TornReeds$Places"
  | 2 => .array .int
  | 3 => .object "TornReeds$Pairing"
  | 4 => .int
  | 5 => .int
  | _ => .int
abbrev wsX70 : List Cond := u_ws RX7 TX7 7
theorem nmX7 : ∀ a, a < 7 → ∀ b, b < 7 → a ≠ b → (TX7 a).2.1 ≠ (TX7 b).2.1 := by decide +kernel
theorem tyX7_ok : ∀ k, k < 7 → parseFieldDescriptor (TX7 k).2.2.1 = some (tyX7 k) := by decide +kernel
abbrev cX7_init : ByteArray := prog_9_method_1_code
def yX7_init : MethodName := ⟨RX7, "<init>", "()V"⟩
abbrev cX7_countAlone : ByteArray := prog_9_method_2_code
def yX7_countAlone : MethodName := ⟨RX7, "countAlone", "(LTornReeds$Bit;LTornReeds$Sheet;LTornReeds$WordList;)I"⟩
abbrev cX7_joinAlone : ByteArray := prog_9_method_3_code
def yX7_joinAlone : MethodName := ⟨RX7, "joinAlone", "(LTornReeds$Bit;LTornReeds$Sheet;LTornReeds$WordList;)Z"⟩
abbrev cX7_joinBoth : ByteArray := prog_9_method_4_code
def yX7_joinBoth : MethodName := ⟨RX7, "joinBoth", "(LTornReeds$Bit;LTornReeds$Bit;LTornReeds$Sheet;LTornReeds$WordList;)Z"⟩
abbrev cX7_weigh : ByteArray := prog_9_method_5_code
def yX7_weigh : MethodName := ⟨RX7, "weigh", "(LTornReeds$Bit;ILTornReeds$Bit;ILTornReeds$Sheet;LTornReeds$WordList;)V"⟩
abbrev cX7_gainOf : ByteArray := prog_9_method_6_code
def yX7_gainOf : MethodName := ⟨RX7, "gainOf", "(II)I"⟩
def RX8 : String := "TornReeds$Sheet"
def TX8 : u_T := fun k => match k with
  | 0 => ("TornReeds$Sheet", "signs", "[I", true)
  | 1 => ("TornReeds$Sheet", "owners", "[I", true)
  | 2 => ("TornReeds$Sheet", "across", "LTornReeds$Lanes;", true)
  | 3 => ("TornReeds$Sheet", "down", "LTornReeds$Lanes;", true)
  | _ => ("TornReeds$Sheet", "lying", "I", false)
def tyX8 : Nat → FieldType := fun k => match k with
  | 0 => .array .int
  | 1 => .array .int
  | 2 => .object "TornReeds$Lanes"
  | 3 => .object "TornReeds$Lanes"
  | _ => .int
abbrev wsX80 : List Cond := u_ws RX8 TX8 5
theorem nmX8 : ∀ a, a < 5 → ∀ b, b < 5 → a ≠ b → (TX8 a).2.1 ≠ (TX8 b).2.1 := by decide +kernel
theorem tyX8_ok : ∀ k, k < 5 → parseFieldDescriptor (TX8 k).2.2.1 = some (tyX8 k) := by decide +kernel
abbrev cX8_init : ByteArray := prog_10_method_1_code
def yX8_init : MethodName := ⟨RX8, "<init>", "()V"⟩
abbrev cX8_isInside : ByteArray := prog_10_method_2_code
def yX8_isInside : MethodName := ⟨RX8, "isInside", "(II)Z"⟩
abbrev cX8_signAt : ByteArray := prog_10_method_3_code
def yX8_signAt : MethodName := ⟨RX8, "signAt", "(II)I"⟩
abbrev cX8_ownerAt : ByteArray := prog_10_method_4_code
def yX8_ownerAt : MethodName := ⟨RX8, "ownerAt", "(II)I"⟩
abbrev cX8_hasRoom : ByteArray := prog_10_method_5_code
def yX8_hasRoom : MethodName := ⟨RX8, "hasRoom", "(LTornReeds$Bit;II)Z"⟩
abbrev cX8_fibreWorth : ByteArray := prog_10_method_6_code
def yX8_fibreWorth : MethodName := ⟨RX8, "fibreWorth", "(LTornReeds$Bit;II)I"⟩
abbrev cX8_sidesOf : ByteArray := prog_10_method_7_code
def yX8_sidesOf : MethodName := ⟨RX8, "sidesOf", "(LTornReeds$Bit;II)I"⟩
abbrev cX8_taken : ByteArray := prog_10_method_8_code
def yX8_taken : MethodName := ⟨RX8, "taken", "(II)I"⟩
abbrev cX8_allRunsCan : ByteArray := prog_10_method_9_code
def yX8_allRunsCan : MethodName := ⟨RX8, "allRunsCan", "(LTornReeds$WordList;)Z"⟩
abbrev cX8_runsCanWith : ByteArray := prog_10_method_10_code
def yX8_runsCanWith : MethodName := ⟨RX8, "runsCanWith", "(LTornReeds$Bit;IILTornReeds$WordList;)Z"⟩
abbrev cX8_runsCan : ByteArray := prog_10_method_11_code
def yX8_runsCan : MethodName := ⟨RX8, "runsCan", "(IIILTornReeds$WordList;)Z"⟩
abbrev cX8_startOfRun : ByteArray := prog_10_method_12_code
def yX8_startOfRun : MethodName := ⟨RX8, "startOfRun", "(II)I"⟩
abbrev cX8_followRun : ByteArray := prog_10_method_13_code
def yX8_followRun : MethodName := ⟨RX8, "followRun", "(IILTornReeds$WordList;)V"⟩
abbrev cX8_wholeWorth : ByteArray := prog_10_method_14_code
def yX8_wholeWorth : MethodName := ⟨RX8, "wholeWorth", "()I"⟩
abbrev cX8_meet : ByteArray := prog_10_method_15_code
def yX8_meet : MethodName := ⟨RX8, "meet", "(II)I"⟩
abbrev cX8_write : ByteArray := prog_10_method_16_code
def yX8_write : MethodName := ⟨RX8, "write", "(LTornReeds$Bit;II)V"⟩
abbrev cX8_wipe : ByteArray := prog_10_method_17_code
def yX8_wipe : MethodName := ⟨RX8, "wipe", "(LTornReeds$Bit;II)V"⟩
abbrev cX8_put : ByteArray := prog_10_method_18_code
def yX8_put : MethodName := ⟨RX8, "put", "(LTornReeds$Bit;II)V"⟩
abbrev cX8_remove : ByteArray := prog_10_method_19_code
def yX8_remove : MethodName := ⟨RX8, "remove", "(LTornReeds$Bit;)V"⟩
abbrev cX8_own : ByteArray := prog_10_method_20_code
def yX8_own : MethodName := ⟨RX8, "own", "(LTornReeds$Bit;III)V"⟩
def RX9 : String := "TornReeds$Tape"
def TX9 : u_T := fun k => match k with
  | 0 => ("TornReeds$Tape", "bytes", "[I", true)
  | _ => ("TornReeds$Tape", "length", "I", false)
def tyX9 : Nat → FieldType := fun k => match k with
  | 0 => .array .int
  | _ => .int
abbrev wsX90 : List Cond := u_ws RX9 TX9 2
theorem nmX9 : ∀ a, a < 2 → ∀ b, b < 2 → a ≠ b → (TX9 a).2.1 ≠ (TX9 b).2.1 := by decide +kernel
theorem tyX9_ok : ∀ k, k < 2 → parseFieldDescriptor (TX9 k).2.2.1 = some (tyX9 k) := by decide +kernel
abbrev cX9_init : ByteArray := prog_11_method_1_code
def yX9_init : MethodName := ⟨RX9, "<init>", "()V"⟩
abbrev cX9_append : ByteArray := prog_11_method_2_code
def yX9_append : MethodName := ⟨RX9, "append", "(I)V"⟩
abbrev cX9_isLetters : ByteArray := prog_11_method_3_code
def yX9_isLetters : MethodName := ⟨RX9, "isLetters", "(I)Z"⟩
def RX10 : String := "TornReeds$WordList"
def TX10 : u_T := fun k => match k with
  | 0 => ("TornReeds$WordList", "count", "I", false)
  | 1 => ("TornReeds$WordList", "letters", "[[J", true)
  | 2 => ("TornReeds$WordList", "starts", "[J", true)
  | 3 => ("TornReeds$WordList", "ends", "[J", true)
  | 4 => ("TornReeds$WordList", "expected", "[J", true)
  | _ => ("TornReeds$WordList", "matched", "[J", true)
def tyX10 : Nat → FieldType := fun k => match k with
  | 0 => .int
  | 1 => .array (.array .long)
  | 2 => .array .long
  | 3 => .array .long
  | 4 => .array .long
  | _ => .array .long
abbrev wsX100 : List Cond := u_ws RX10 TX10 6
theorem nmX10 : ∀ a, a < 6 → ∀ b, b < 6 → a ≠ b → (TX10 a).2.1 ≠ (TX10 b).2.1 := by decide +kernel
theorem tyX10_ok : ∀ k, k < 6 → parseFieldDescriptor (TX10 k).2.2.1 = some (tyX10 k) := by decide +kernel
abbrev cX10_init : ByteArray := prog_12_method_1_code
def yX10_init : MethodName := ⟨RX10, "<init>", "()V"⟩
abbrev cX10_append : ByteArray := prog_12_method_2_code
def yX10_append : MethodName := ⟨RX10, "append", "(LTornReeds$Tape;)V"⟩
abbrev cX10_indexOf : ByteArray := prog_12_method_3_code
def yX10_indexOf : MethodName := ⟨RX10, "indexOf", "(I)I"⟩
abbrev cX10_beginRun : ByteArray := prog_12_method_4_code
def yX10_beginRun : MethodName := ⟨RX10, "beginRun", "(Z)V"⟩
abbrev cX10_nextSign : ByteArray := prog_12_method_5_code
def yX10_nextSign : MethodName := ⟨RX10, "nextSign", "(I)V"⟩
abbrev cX10_endRun : ByteArray := prog_12_method_6_code
def yX10_endRun : MethodName := ⟨RX10, "endRun", "(Z)V"⟩
abbrev cX10_canBeSome : ByteArray := prog_12_method_7_code
def yX10_canBeSome : MethodName := ⟨RX10, "canBeSome", "()Z"⟩
abbrev cX10_canBe : ByteArray := prog_12_method_8_code
def yX10_canBe : MethodName := ⟨RX10, "canBe", "(I)Z"⟩
def RX11 : String := "TornReeds"
def TX11 : u_T := fun k => match k with
  | 0 => ("TornReeds", "tape", "LTornReeds$Tape;", true)
  | 1 => ("TornReeds", "bits", "[LTornReeds$Bit;", true)
  | 2 => ("TornReeds", "list", "LTornReeds$WordList;", true)
  | 3 => ("TornReeds", "papyrus", "LTornReeds$Sheet;", true)
  | 4 => ("TornReeds", "search", "LTornReeds$Search;", true)
  | 5 => ("TornReeds", "worms", "LTornReeds$Roll;", true)
  | _ => ("TornReeds", "text", "LTornReeds$KnownText;", true)
def tyX11 : Nat → FieldType := fun k => match k with
  | 0 => .object "TornReeds$Tape"
  | 1 => .array (.object "TornReeds$Bit")
  | 2 => .object "TornReeds$WordList"
  | 3 => .object "TornReeds$Sheet"
  | 4 => .object "TornReeds$Search"
  | 5 => .object "TornReeds$Roll"
  | _ => .object "TornReeds$KnownText"
abbrev wsX110 : List Cond := u_ws RX11 TX11 7
theorem nmX11 : ∀ a, a < 7 → ∀ b, b < 7 → a ≠ b → (TX11 a).2.1 ≠ (TX11 b).2.1 := by decide +kernel
theorem tyX11_ok : ∀ k, k < 7 → parseFieldDescriptor (TX11 k).2.2.1 = some (tyX11 k) := by decide +kernel
abbrev cX11_init : ByteArray := prog_1_method_1_code
def yX11_init : MethodName := ⟨RX11, "<init>", "()V"⟩
abbrev cX11_feed : ByteArray := prog_1_method_2_code
def yX11_feed : MethodName := ⟨RX11, "feed", "(IIIII)I"⟩
abbrev cX11_end : ByteArray := prog_1_method_3_code
def yX11_end : MethodName := ⟨RX11, "end", "(I)Z"⟩
abbrev cX11_bit : ByteArray := prog_1_method_4_code
def yX11_bit : MethodName := ⟨RX11, "bit", "(I)I"⟩
abbrev cX11_cell : ByteArray := prog_1_method_5_code
def yX11_cell : MethodName := ⟨RX11, "cell", "(III)I"⟩
abbrev cX11_fibre : ByteArray := prog_1_method_6_code
def yX11_fibre : MethodName := ⟨RX11, "fibre", "(IZII)I"⟩
abbrev cX11_word : ByteArray := prog_1_method_7_code
def yX11_word : MethodName := ⟨RX11, "word", "()I"⟩
abbrev cX11_lay : ByteArray := prog_1_method_8_code
def yX11_lay : MethodName := ⟨RX11, "lay", "(III)Z"⟩
abbrev cX11_take : ByteArray := prog_1_method_9_code
def yX11_take : MethodName := ⟨RX11, "take", "(I)Z"⟩
abbrev cX11_place : ByteArray := prog_1_method_10_code
def yX11_place : MethodName := ⟨RX11, "place", "(II)I"⟩
abbrev cX11_sheet : ByteArray := prog_1_method_11_code
def yX11_sheet : MethodName := ⟨RX11, "sheet", "(II)I"⟩
abbrev cX11_whose : ByteArray := prog_1_method_12_code
def yX11_whose : MethodName := ⟨RX11, "whose", "(II)I"⟩
abbrev cX11_words : ByteArray := prog_1_method_13_code
def yX11_words : MethodName := ⟨RX11, "words", "(II)I"⟩
abbrev cX11_read : ByteArray := prog_1_method_14_code
def yX11_read : MethodName := ⟨RX11, "read", "(III)I"⟩
abbrev cX11_worth : ByteArray := prog_1_method_15_code
def yX11_worth : MethodName := ⟨RX11, "worth", "()I"⟩
abbrev cX11_join : ByteArray := prog_1_method_16_code
def yX11_join : MethodName := ⟨RX11, "join", "(II)I"⟩
abbrev cX11_joins : ByteArray := prog_1_method_17_code
def yX11_joins : MethodName := ⟨RX11, "joins", "(I)I"⟩
abbrev cX11_roll : ByteArray := prog_1_method_18_code
def yX11_roll : MethodName := ⟨RX11, "roll", "(II)I"⟩
abbrev cX11_hole : ByteArray := prog_1_method_19_code
def yX11_hole : MethodName := ⟨RX11, "hole", "(II)I"⟩
abbrev cX11_stood : ByteArray := prog_1_method_20_code
def yX11_stood : MethodName := ⟨RX11, "stood", "(I)I"⟩
abbrev cX11_standing : ByteArray := prog_1_method_21_code
def yX11_standing : MethodName := ⟨RX11, "standing", "(II)I"⟩
abbrev cX11_known : ByteArray := prog_1_method_22_code
def yX11_known : MethodName := ⟨RX11, "known", "()I"⟩
abbrev cX11_stands : ByteArray := prog_1_method_23_code
def yX11_stands : MethodName := ⟨RX11, "stands", "(II)I"⟩
abbrev cX11_letter : ByteArray := prog_1_method_24_code
def yX11_letter : MethodName := ⟨RX11, "letter", "(III)I"⟩
abbrev cX11_width : ByteArray := prog_1_method_25_code
def yX11_width : MethodName := ⟨RX11, "width", "(III)I"⟩
abbrev cX11_bitOf : ByteArray := prog_1_method_26_code
def yX11_bitOf : MethodName := ⟨RX11, "bitOf", "(I)LTornReeds$Bit;"⟩
abbrev cX11_looseBit : ByteArray := prog_1_method_27_code
def yX11_looseBit : MethodName := ⟨RX11, "looseBit", "(I)LTornReeds$Bit;"⟩
abbrev cX11_isWidth : ByteArray := prog_1_method_28_code
def yX11_isWidth : MethodName := ⟨RX11, "isWidth", "(I)Z"⟩
abbrev cX11_isLetter : ByteArray := prog_1_method_29_code
def yX11_isLetter : MethodName := ⟨RX11, "isLetter", "(I)Z"⟩
abbrev cX11_isText : ByteArray := prog_1_method_30_code
def yX11_isText : MethodName := ⟨RX11, "isText", "(I)Z"⟩
def RX12 : String := "TornReedsModel"
def TX12 : u_T := fun k => match k with
  | 0 => ("TornReedsModel", "tape", "[I", true)
  | 1 => ("TornReedsModel", "taped", "I", false)
  | 2 => ("TornReedsModel", "isBit", "[Z", true)
  | 3 => ("TornReedsModel", "cells", "[I", true)
  | 4 => ("TornReedsModel", "across", "[I", true)
  | 5 => ("TornReedsModel", "down", "[I", true)
  | 6 => ("TornReedsModel", "lies", "[Z", true)
  | 7 => ("TornReedsModel", "lieRow", "[I", true)
  | 8 => ("TornReedsModel", "lieColumn", "[I", true)
  | 9 => ("TornReedsModel", "holes", "[I", true)
  | 10 => ("TornReedsModel", "holeAt", "[I", true)
  | 11 => ("TornReedsModel", "read", "[I", true)
  | 12 => ("TornReedsModel", "words", "I", false)
  | 13 => ("TornReedsModel", "size", "[I", true)
  | 14 => ("TornReedsModel", "letter", "[I", true)
  | 15 => ("TornReedsModel", "signs", "[I", true)
  | 16 => ("TornReedsModel", "owner", "[I", true)
  | 17 => ("TornReedsModel", "runFrom", "I", false)
  | 18 => ("TornReedsModel", "runEnd", "I", false)
  | 19 => ("TornReedsModel", "closedAhead", "Z", false)
  | 20 => ("TornReedsModel", "closedBehind", "Z", false)
  | 21 => ("TornReedsModel", "bestWorth", "I", false)
  | 22 => ("TornReedsModel", "bestA", "I", false)
  | 23 => ("TornReedsModel", "bestB", "I", false)
  | 24 => ("TornReedsModel", "early", "[I", true)
  | 25 => ("TornReedsModel", "rollHoles", "I", false)
  | 26 => ("TornReedsModel", "roll", "[I", true)
  | 27 => ("TornReedsModel", "counted", "I", false)
  | 28 => ("TornReedsModel", "knownSize", "I", false)
  | _ => ("TornReedsModel", "text", "[I", true)
def tyX12 : Nat → FieldType := fun k => match k with
  | 0 => .array .int
  | 1 => .int
  | 2 => .array .boolean
  | 3 => .array .int
  | 4 => .array .int
  | 5 => .array .int
  | 6 => .array .boolean
  | 7 => .array .int
  | 8 => .array .int
  | 9 => .array .int
  | 10 => .array .int
  | 11 => .array .int
  | 12 => .int
  | 13 => .array .int
  | 14 => .array .int
  | 15 => .array .int
  | 16 => .array .int
  | 17 => .int
  | 18 => .int
  | 19 => .boolean
  | 20 => .boolean
  | 21 => .int
  | 22 => .int
  | 23 => .int
  | 24 => .array .int
  | 25 => .int
  | 26 => .array .int
  | 27 => .int
  | 28 => .int
  | _ => .array .int
abbrev wsX120 : List Cond := u_ws RX12 TX12 30
theorem nmX12 : ∀ a, a < 30 → ∀ b, b < 30 → a ≠ b → (TX12 a).2.1 ≠ (TX12 b).2.1 := by decide +kernel
theorem tyX12_ok : ∀ k, k < 30 → parseFieldDescriptor (TX12 k).2.2.1 = some (tyX12 k) := by decide +kernel
abbrev cX12_init : ByteArray := prog_14_method_1_code
def yX12_init : MethodName := ⟨RX12, "<init>", "()V"⟩
abbrev cX12_feed : ByteArray := prog_14_method_2_code
def yX12_feed : MethodName := ⟨RX12, "feed", "(IIIII)I"⟩
abbrev cX12_end : ByteArray := prog_14_method_3_code
def yX12_end : MethodName := ⟨RX12, "end", "(I)Z"⟩
abbrev cX12_isIn : ByteArray := prog_14_method_4_code
def yX12_isIn : MethodName := ⟨RX12, "isIn", "(III)Z"⟩
abbrev cX12_isLetter : ByteArray := prog_14_method_5_code
def yX12_isLetter : MethodName := ⟨RX12, "isLetter", "(I)Z"⟩
abbrev cX12_isBit : ByteArray := prog_14_method_6_code
def yX12_isBit : MethodName := ⟨RX12, "isBit", "(I)Z"⟩
abbrev cX12_reads : ByteArray := prog_14_method_7_code
def yX12_reads : MethodName := ⟨RX12, "reads", "(I)I"⟩
abbrev cX12_bit : ByteArray := prog_14_method_8_code
def yX12_bit : MethodName := ⟨RX12, "bit", "(I)I"⟩
abbrev cX12_cell : ByteArray := prog_14_method_9_code
def yX12_cell : MethodName := ⟨RX12, "cell", "(III)I"⟩
abbrev cX12_fibre : ByteArray := prog_14_method_10_code
def yX12_fibre : MethodName := ⟨RX12, "fibre", "(IZII)I"⟩
abbrev cX12_word : ByteArray := prog_14_method_11_code
def yX12_word : MethodName := ⟨RX12, "word", "()I"⟩
abbrev cX12_at : ByteArray := prog_14_method_12_code
def yX12_at : MethodName := ⟨RX12, "at", "(III)I"⟩
abbrev cX12_lays : ByteArray := prog_14_method_13_code
def yX12_lays : MethodName := ⟨RX12, "lays", "(I)Z"⟩
abbrev cX12_laysAll : ByteArray := prog_14_method_14_code
def yX12_laysAll : MethodName := ⟨RX12, "laysAll", "()Z"⟩
abbrev cX12_hasInRow : ByteArray := prog_14_method_15_code
def yX12_hasInRow : MethodName := ⟨RX12, "hasInRow", "(II)Z"⟩
abbrev cX12_hasInColumn : ByteArray := prog_14_method_16_code
def yX12_hasInColumn : MethodName := ⟨RX12, "hasInColumn", "(II)Z"⟩
abbrev cX12_acrossOf : ByteArray := prog_14_method_17_code
def yX12_acrossOf : MethodName := ⟨RX12, "acrossOf", "(III)I"⟩
abbrev cX12_downOf : ByteArray := prog_14_method_18_code
def yX12_downOf : MethodName := ⟨RX12, "downOf", "(III)I"⟩
abbrev cX12_quarrel : ByteArray := prog_14_method_19_code
def yX12_quarrel : MethodName := ⟨RX12, "quarrel", "(II)Z"⟩
abbrev cX12_isInk : ByteArray := prog_14_method_20_code
def yX12_isInk : MethodName := ⟨RX12, "isInk", "(I)Z"⟩
abbrev cX12_runAt : ByteArray := prog_14_method_21_code
def yX12_runAt : MethodName := ⟨RX12, "runAt", "(II)V"⟩
abbrev cX12_isFrom : ByteArray := prog_14_method_22_code
def yX12_isFrom : MethodName := ⟨RX12, "isFrom", "(II)Z"⟩
abbrev cX12_canBe : ByteArray := prog_14_method_23_code
def yX12_canBe : MethodName := ⟨RX12, "canBe", "(I)Z"⟩
abbrev cX12_canAny : ByteArray := prog_14_method_24_code
def yX12_canAny : MethodName := ⟨RX12, "canAny", "()Z"⟩
abbrev cX12_runsCan : ByteArray := prog_14_method_25_code
def yX12_runsCan : MethodName := ⟨RX12, "runsCan", "()Z"⟩
abbrev cX12_mayLie : ByteArray := prog_14_method_26_code
def yX12_mayLie : MethodName := ⟨RX12, "mayLie", "()Z"⟩
abbrev cX12_puts : ByteArray := prog_14_method_27_code
def yX12_puts : MethodName := ⟨RX12, "puts", "(III)V"⟩
abbrev cX12_lay : ByteArray := prog_14_method_28_code
def yX12_lay : MethodName := ⟨RX12, "lay", "(III)Z"⟩
abbrev cX12_take : ByteArray := prog_14_method_29_code
def yX12_take : MethodName := ⟨RX12, "take", "(I)Z"⟩
abbrev cX12_place : ByteArray := prog_14_method_30_code
def yX12_place : MethodName := ⟨RX12, "place", "(II)I"⟩
abbrev cX12_isPlace : ByteArray := prog_14_method_31_code
def yX12_isPlace : MethodName := ⟨RX12, "isPlace", "(II)Z"⟩
abbrev cX12_sheet : ByteArray := prog_14_method_32_code
def yX12_sheet : MethodName := ⟨RX12, "sheet", "(II)I"⟩
abbrev cX12_whose : ByteArray := prog_14_method_33_code
def yX12_whose : MethodName := ⟨RX12, "whose", "(II)I"⟩
abbrev cX12_hasRun : ByteArray := prog_14_method_34_code
def yX12_hasRun : MethodName := ⟨RX12, "hasRun", "(II)Z"⟩
abbrev cX12_words : ByteArray := prog_14_method_35_code
def yX12_words : MethodName := ⟨RX12, "words", "(II)I"⟩
abbrev cX12_read : ByteArray := prog_14_method_36_code
def yX12_read : MethodName := ⟨RX12, "read", "(III)I"⟩
abbrev cX12_sides : ByteArray := prog_14_method_37_code
def yX12_sides : MethodName := ⟨RX12, "sides", "(II)I"⟩
abbrev cX12_worthOf : ByteArray := prog_14_method_38_code
def yX12_worthOf : MethodName := ⟨RX12, "worthOf", "(II)I"⟩
abbrev cX12_worthNow : ByteArray := prog_14_method_39_code
def yX12_worthNow : MethodName := ⟨RX12, "worthNow", "()I"⟩
abbrev cX12_worth : ByteArray := prog_14_method_40_code
def yX12_worth : MethodName := ⟨RX12, "worth", "()I"⟩
abbrev cX12_rowOf : ByteArray := prog_14_method_42_code
def yX12_rowOf : MethodName := ⟨RX12, "rowOf", "(I)I"⟩
abbrev cX12_columnOf : ByteArray := prog_14_method_43_code
def yX12_columnOf : MethodName := ⟨RX12, "columnOf", "(I)I"⟩
abbrev cX12_fits : ByteArray := prog_14_method_44_code
def yX12_fits : MethodName := ⟨RX12, "fits", "(I)I"⟩
abbrev cX12_anyLies : ByteArray := prog_14_method_45_code
def yX12_anyLies : MethodName := ⟨RX12, "anyLies", "()Z"⟩
abbrev cX12_notesEarly : ByteArray := prog_14_method_46_code
def yX12_notesEarly : MethodName := ⟨RX12, "notesEarly", "()V"⟩
abbrev cX12_isNext : ByteArray := prog_14_method_47_code
def yX12_isNext : MethodName := ⟨RX12, "isNext", "(I)Z"⟩
abbrev cX12_holds : ByteArray := prog_14_method_48_code
def yX12_holds : MethodName := ⟨RX12, "holds", "(IIII)V"⟩
abbrev cX12_tries : ByteArray := prog_14_method_49_code
def yX12_tries : MethodName := ⟨RX12, "tries", "(II)I"⟩
abbrev cX12_seconds : ByteArray := prog_14_method_50_code
def yX12_seconds : MethodName := ⟨RX12, "seconds", "(IIII)V"⟩
abbrev cX12_mayTouch : ByteArray := prog_14_method_51_code
def yX12_mayTouch : MethodName := ⟨RX12, "mayTouch", "(IIII)Z"⟩
abbrev cX12_mayJoin : ByteArray := prog_14_method_52_code
def yX12_mayJoin : MethodName := ⟨RX12, "mayJoin", "(I)Z"⟩
abbrev cX12_join : ByteArray := prog_14_method_53_code
def yX12_join : MethodName := ⟨RX12, "join", "(II)I"⟩
abbrev cX12_joins : ByteArray := prog_14_method_54_code
def yX12_joins : MethodName := ⟨RX12, "joins", "(I)I"⟩
abbrev cX12_roll : ByteArray := prog_14_method_55_code
def yX12_roll : MethodName := ⟨RX12, "roll", "(II)I"⟩
abbrev cX12_hole : ByteArray := prog_14_method_56_code
def yX12_hole : MethodName := ⟨RX12, "hole", "(II)I"⟩
abbrev cX12_stoodAt : ByteArray := prog_14_method_57_code
def yX12_stoodAt : MethodName := ⟨RX12, "stoodAt", "(II)Z"⟩
abbrev cX12_stoods : ByteArray := prog_14_method_58_code
def yX12_stoods : MethodName := ⟨RX12, "stoods", "(II)I"⟩
abbrev cX12_mayStand : ByteArray := prog_14_method_59_code
def yX12_mayStand : MethodName := ⟨RX12, "mayStand", "(I)Z"⟩
abbrev cX12_stood : ByteArray := prog_14_method_60_code
def yX12_stood : MethodName := ⟨RX12, "stood", "(I)I"⟩
abbrev cX12_standing : ByteArray := prog_14_method_61_code
def yX12_standing : MethodName := ⟨RX12, "standing", "(II)I"⟩
abbrev cX12_known : ByteArray := prog_14_method_62_code
def yX12_known : MethodName := ⟨RX12, "known", "()I"⟩
abbrev cX12_floor : ByteArray := prog_14_method_63_code
def yX12_floor : MethodName := ⟨RX12, "floor", "(II)I"⟩
abbrev cX12_standsAt : ByteArray := prog_14_method_64_code
def yX12_standsAt : MethodName := ⟨RX12, "standsAt", "(III)Z"⟩
abbrev cX12_standsBy : ByteArray := prog_14_method_65_code
def yX12_standsBy : MethodName := ⟨RX12, "standsBy", "(III)I"⟩
abbrev cX12_hasInk : ByteArray := prog_14_method_66_code
def yX12_hasInk : MethodName := ⟨RX12, "hasInk", "(I)Z"⟩
abbrev cX12_stands : ByteArray := prog_14_method_67_code
def yX12_stands : MethodName := ⟨RX12, "stands", "(II)I"⟩
abbrev cX12_letter : ByteArray := prog_14_method_68_code
def yX12_letter : MethodName := ⟨RX12, "letter", "(III)I"⟩
abbrev cX12_width : ByteArray := prog_14_method_69_code
def yX12_width : MethodName := ⟨RX12, "width", "(III)I"⟩
def RJ9 : String := "java/lang/Math"
def TJ9 : u_T := fun k => match k with
  | _ => ("", "", "", false)
def tyJ9 : Nat → FieldType := fun k => match k with
  | _ => .int
abbrev wsJ90 : List Cond := u_ws RJ9 TJ9 0
theorem nmJ9 : ∀ a, a < 0 → ∀ b, b < 0 → a ≠ b → (TJ9 a).2.1 ≠ (TJ9 b).2.1 := by decide +kernel
theorem tyJ9_ok : ∀ k, k < 0 → parseFieldDescriptor (TJ9 k).2.2.1 = some (tyJ9 k) := by decide +kernel
abbrev cJ9_floorMod_7cf53 : ByteArray := prog_15_method_50_code
def yJ9_floorMod_7cf53 : MethodName := ⟨RJ9, "floorMod", "(II)I"⟩
abbrev cJ9_max_7cf53 : ByteArray := prog_15_method_65_code
def yJ9_max_7cf53 : MethodName := ⟨RJ9, "max", "(II)I"⟩
def RJ10 : String := "java/lang/System"
def TJ10 : u_T := fun k => match k with
  | _ => ("", "", "", false)
def tyJ10 : Nat → FieldType := fun k => match k with
  | _ => .int
abbrev wsJ100 : List Cond := u_ws RJ10 TJ10 0
theorem nmJ10 : ∀ a, a < 0 → ∀ b, b < 0 → a ≠ b → (TJ10 a).2.1 ≠ (TJ10 b).2.1 := by decide +kernel
theorem tyJ10_ok : ∀ k, k < 0 → parseFieldDescriptor (TJ10 k).2.2.1 = some (tyJ10 k) := by decide +kernel
def RL : String := "TornReedsLaw"
abbrev cL_law : ByteArray := code
def yL_law : MethodName := ⟨RL, "law", "([I)Z"⟩
abbrev vwCl : List vw_C := [(RX0, TX0, 16), (RX1, TX1, 2), (RX2, TX2, 2), (RX3, TX3, 2), (RX4, TX4, 3), (RX5, TX5, 5), (RX6, TX6, 2), (RX7, TX7, 7), (RX8, TX8, 5), (RX9, TX9, 2), (RX10, TX10, 6), (RX11, TX11, 7), (RX12, TX12, 30)]
end
section
/-! THE MACHINE IN ONE MEMORY. Cells have numbers (ids, in the order in which they are made); zM: ints, longs, references by (id, place), and how many cells there are. -/
abbrev zM : Type := (Nat → Nat → Int32) × (Nat → Nat → Int64) × (Nat → Nat → Option Nat) × Nat
abbrev zS : Type := Nat ⊕ (FieldType × Nat)
def zm_T (ci k : Nat) : FieldType := match ci with
  | 0 => tyX0 k | 1 => tyX1 k | 2 => tyX2 k | 3 => tyX3 k | 4 => tyX4 k | 5 => tyX5 k | 6 => tyX6 k | 7 => tyX7 k | 8 => tyX8 k | 9 => tyX9 k | 10 => tyX10 k | 11 => tyX11 k | _ => tyX12 k
def zm_N (ci : Nat) : Nat := match ci with
  | 0 => 16 | 1 => 2 | 2 => 2 | 3 => 2 | 4 => 3 | 5 => 5 | 6 => 2 | 7 => 7 | 8 => 5 | 9 => 2 | 10 => 6 | 11 => 7 | _ => 30
def zm_C (ci : Nat) : String := match ci with
  | 0 => RX0 | 1 => RX1 | 2 => RX2 | 3 => RX3 | 4 => RX4 | 5 => RX5 | 6 => RX6 | 7 => RX7 | 8 => RX8 | 9 => RX9 | 10 => RX10 | 11 => RX11 | _ => RX12
def zm_F (ci : Nat) : u_T := match ci with
  | 0 => TX0 | 1 => TX1 | 2 => TX2 | 3 => TX3 | 4 => TX4 | 5 => TX5 | 6 => TX6 | 7 => TX7 | 8 => TX8 | 9 => TX9 | 10 => TX10 | 11 => TX11 | _ => TX12
theorem zm_cl {ci : Nat} (h : ci < 13) : vwCl[ci]? = some (zm_C ci, zm_F ci, zm_N ci) := by
  match ci, h with
  | 0, _ => rfl
  | 1, _ => rfl
  | 2, _ => rfl
  | 3, _ => rfl
  | 4, _ => rfl
  | 5, _ => rfl
  | 6, _ => rfl
  | 7, _ => rfl
  | 8, _ => rfl
  | 9, _ => rfl
  | 10, _ => rfl
  | 11, _ => rfl
  | 12, _ => rfl
theorem zm_tyok {ci : Nat} (h : ci < 13) : ∀ k, k < zm_N ci → parseFieldDescriptor (zm_F ci k).2.2.1 = some (zm_T ci k) := by
  match ci, h with
  | 0, _ => exact tyX0_ok
  | 1, _ => exact tyX1_ok
  | 2, _ => exact tyX2_ok
  | 3, _ => exact tyX3_ok
  | 4, _ => exact tyX4_ok
  | 5, _ => exact tyX5_ok
  | 6, _ => exact tyX6_ok
  | 7, _ => exact tyX7_ok
  | 8, _ => exact tyX8_ok
  | 9, _ => exact tyX9_ok
  | 10, _ => exact tyX10_ok
  | 11, _ => exact tyX11_ok
  | 12, _ => exact tyX12_ok
theorem zm_nm {ci : Nat} (h : ci < 13) : ∀ a, a < zm_N ci → ∀ b, b < zm_N ci → a ≠ b → (zm_F ci a).2.1 ≠ (zm_F ci b).2.1 := by
  match ci, h with
  | 0, _ => exact nmX0
  | 1, _ => exact nmX1
  | 2, _ => exact nmX2
  | 3, _ => exact nmX3
  | 4, _ => exact nmX4
  | 5, _ => exact nmX5
  | 6, _ => exact nmX6
  | 7, _ => exact nmX7
  | 8, _ => exact nmX8
  | 9, _ => exact nmX9
  | 10, _ => exact nmX10
  | 11, _ => exact nmX11
  | 12, _ => exact nmX12
/-- the words of the tables that a callee may have -/
def zm_g : List Cond := lw_tbl.filter goodWord
theorem zm_in {w : Cond} (h : w ∈ lw_tbl) (hg : goodWord w = true) : w ∈ zm_g := List.mem_filter.mpr ⟨h, hg⟩
theorem zm_lays {ci : Nat} (h : ci < 13) : ∀ w ∈ u_ws (zm_C ci) (zm_F ci) (zm_N ci), w ∈ zm_g := by
  have key : ∀ (l : List Cond), (l.all (fun w => decide (w ∈ lw_tbl) && goodWord w)) = true → ∀ w ∈ l, w ∈ zm_g := fun l hl w hw => by
    have h1 := List.all_eq_true.mp hl w hw
    simp only [Bool.and_eq_true, decide_eq_true_eq] at h1
    exact zm_in h1.1 h1.2
  match ci, h with
  | 0, _ => exact key wsX00 (by decide +kernel)
  | 1, _ => exact key wsX10 (by decide +kernel)
  | 2, _ => exact key wsX20 (by decide +kernel)
  | 3, _ => exact key wsX30 (by decide +kernel)
  | 4, _ => exact key wsX40 (by decide +kernel)
  | 5, _ => exact key wsX50 (by decide +kernel)
  | 6, _ => exact key wsX60 (by decide +kernel)
  | 7, _ => exact key wsX70 (by decide +kernel)
  | 8, _ => exact key wsX80 (by decide +kernel)
  | 9, _ => exact key wsX90 (by decide +kernel)
  | 10, _ => exact key wsX100 (by decide +kernel)
  | 11, _ => exact key wsX110 (by decide +kernel)
  | 12, _ => exact key wsX120 (by decide +kernel)
/-! which cell is what: id 0 the TornReeds, from 4 on 13 cells a BIT, 134 the WordList, 142 the Sheet, 151 the Search, 167 the Roll, 169 the KnownText, 171 the TornReedsModel -/
def zm_sb (r : Nat) : zS := match r with
  | 0 => .inl 0 | 1 => .inr (.int, 50) | 2 => .inr (.int, 50) | 3 => .inr (.int, 50) | 4 => .inr (.int, 5) | 5 => .inr (.int, 5) | 6 => .inl 1 | 7 => .inr (.int, 5) | 8 => .inr (.boolean, 5) | 9 => .inl 1 | 10 => .inr (.int, 10) | 11 => .inr (.boolean, 10) | _ => .inr (.int, 6)
def zm_sr (r : Nat) : zS := match r with
  | 0 => .inl 10 | 1 => .inr (.array .long, 2) | 2 => .inr (.long, 27) | 3 => .inr (.long, 27) | 4 => .inr (.long, 2) | 5 => .inr (.long, 2) | 6 => .inr (.long, 2) | 7 => .inr (.long, 2)
  | 8 => .inl 8 | 9 => .inr (.int, 512) | 10 => .inr (.int, 512) | 11 => .inl 3 | 12 => .inr (.int, 16) | 13 => .inr (.int, 16) | 14 => .inl 3 | 15 => .inr (.int, 32) | 16 => .inr (.int, 32)
  | 17 => .inl 7 | 18 => .inl 5 | 19 => .inr (.int, 512) | 20 => .inr (.int, 512) | 21 => .inr (.int, 512) | 22 => .inr (.boolean, 512) | 23 => .inl 5 | 24 => .inr (.int, 512) | 25 => .inr (.int, 512) | 26 => .inr (.int, 512) | 27 => .inr (.boolean, 512) | 28 => .inr (.int, 512)
  | 29 => .inl 4 | 30 => .inr (.int, 231) | 31 => .inr (.int, 11) | 32 => .inr (.int, 21) | 33 => .inl 6 | 34 => .inr (.int, 40) | 35 => .inl 2 | 36 => .inr (.int, 200)
  | 37 => .inl 12 | 38 => .inr (.int, 200) | 39 => .inr (.boolean, 10) | 40 => .inr (.int, 500) | 41 => .inr (.int, 50) | 42 => .inr (.int, 100) | 43 => .inr (.boolean, 10) | 44 => .inr (.int, 10) | 45 => .inr (.int, 10) | 46 => .inr (.int, 10) | 47 => .inr (.int, 60) | 48 => .inr (.int, 50) | 49 => .inr (.int, 12) | 50 => .inr (.int, 120) | 51 => .inr (.int, 512) | 52 => .inr (.int, 512) | 53 => .inr (.int, 512) | 54 => .inr (.int, 40) | _ => .inr (.int, 200)
def zm_s0 (r : Nat) : zS := match r with
  | 0 => .inl 11 | 1 => .inl 9 | 2 => .inr (.int, 200) | _ => .inr (.object "TornReeds$Bit", 10)
def zm_sh (id : Nat) : zS := if id < 4 then zm_s0 id else if id < 134 then zm_sb ((id - 4) % 13) else zm_sr (id - 134)
def zm_sz (id : Nat) : Nat := match zm_sh id with
  | .inl ci => zm_N ci
  | .inr q => q.2
def zm_ss : Nat → Nat
  | 0 => 0
  | n + 1 => zm_ss n + zm_sz n
theorem zm_ss_mono (a : Nat) : ∀ d, zm_ss a ≤ zm_ss (a + d)
  | 0 => Nat.le_refl _
  | d + 1 => Nat.le_trans (zm_ss_mono a d) (Nat.le_add_right _ _)
theorem zm_ss_le {a b : Nat} (h : a ≤ b) : zm_ss a ≤ zm_ss b := by
  have := zm_ss_mono a (b - a)
  rwa [Nat.add_sub_cancel' h] at this
/-! values: a reference is an id; ad puts the addresses -/
def z_c (ad : Nat → Nat) (v : Value) : Value := match v with
  | .ref k => .ref (ad k)
  | v => v
def z_w (n : Nat) (v : Value) : Prop := match v with
  | .ref k => k < n ∨ k = 1000
  | _ => True
theorem z_cat (ad : Nat → Nat) (v : Value) : (z_c ad v).category = v.category := by cases v <;> rfl
def z_eq (n : Nat) (ad ad' : Nat → Nat) : Prop := ∀ k, (k < n ∨ k = 1000) → ad' k = ad k
theorem z_c_eq {n : Nat} {ad ad' : Nat → Nat} (h : z_eq n ad ad') {v : Value} (hv : z_w n v) : z_c ad' v = z_c ad v := by
  cases v with
  | ref k => exact congrArg Value.ref (h k hv)
  | _ => rfl
theorem z_w_mono {n n' : Nat} (h : n ≤ n') {v : Value} (hv : z_w n v) : z_w n' v := by
  cases v with
  | ref k => exact hv.elim (fun q => Or.inl (Nat.lt_of_lt_of_le q h)) Or.inr
  | _ => trivial
def z_l (ad : Nat → Nat) (lv : List (Nat × Value)) : List (Nat × Value) := lv.map fun q => (q.1, z_c ad q.2)
def z_s (ad : Nat → Nat) (st : List Value) : List Value := st.map (z_c ad)
def z_wl (n : Nat) (lv : List (Nat × Value)) : Prop := ∀ q ∈ lv, z_w n q.2
def z_ws (n : Nat) (st : List Value) : Prop := ∀ v ∈ st, z_w n v
theorem z_l_eq {n : Nat} {ad ad' : Nat → Nat} (h : z_eq n ad ad') {lv : List (Nat × Value)} (hv : z_wl n lv) : z_l ad' lv = z_l ad lv :=
  List.map_congr_left fun q hq => by rw [z_c_eq h (hv q hq)]
theorem z_s_eq {n : Nat} {ad ad' : Nat → Nat} (h : z_eq n ad ad') {st : List Value} (hv : z_ws n st) : z_s ad' st = z_s ad st :=
  List.map_congr_left fun q hq => z_c_eq h (hv q hq)
theorem z_ws_cons {n : Nat} {v : Value} {st : List Value} (h : z_w n v) (hs : z_ws n st) : z_ws n (v :: st) := fun x hx => (List.mem_cons.mp hx).elim (fun e => e ▸ h) (hs x)
theorem z_ws_tail {n : Nat} {v : Value} {st : List Value} (hs : z_ws n (v :: st)) : z_ws n st := fun x hx => hs x (List.mem_cons_of_mem _ hx)
theorem z_ws_head {n : Nat} {v : Value} {st : List Value} (hs : z_ws n (v :: st)) : z_w n v := hs v List.mem_cons_self
/-! a cell's picture -/
def zm_f (ad : Nat → Nat) (m : zM) (id k : Nat) (ty : FieldType) : Value := match ty with
  | .int => .int (m.1 id k)
  | .boolean => .int (m.1 id k)
  | .long => .long (m.2.1 id k)
  | _ => va_rf ((m.2.2.1 id k).map ad)
def zm_a (ad : Nat → Nat) (m : zM) (id n : Nat) (ty : FieldType) : vp_A := match ty with
  | .int => (n, .inl (m.1 id))
  | .boolean => (n, .inl (m.1 id))
  | .long => (n, .inr (.inl (m.2.1 id)))
  | _ => (n, .inr (.inr (.inr (.inr (fun k => (m.2.2.1 id k).map ad)))))
def zm_E (ad : Nat → Nat) (ca : FieldType → Nat) (m : zM) (id : Nat) : va_E := match zm_sh id with
  | .inl ci => .inr (ci, (List.range (zm_N ci)).map (fun k => zm_f ad m id k (zm_T ci k)))
  | .inr q => .inl (ca q.1, zm_a ad m id q.2 q.1)
def zm_W (ad : Nat → Nat) (ca : FieldType → Nat) (m : zM) : va_W := (List.range m.2.2.2).map fun id => (ad id, zm_E ad ca m id)
theorem zm_W_at (ad : Nat → Nat) (ca : FieldType → Nat) (m : zM) {id : Nat} (h : id < m.2.2.2) : (zm_W ad ca m)[id]? = some (ad id, zm_E ad ca m id) := by
  unfold zm_W
  rw [List.getElem?_map, List.getElem?_range h]
  rfl
theorem zm_W_len (ad : Nat → Nat) (ca : FieldType → Nat) (m : zM) : (zm_W ad ca m).length = m.2.2.2 := by simp [zm_W]
/-- one cell's picture changes -/
theorem zm_W_set (ad : Nat → Nat) (ca : FieldType → Nat) {m m' : zM} {id : Nat} (hn : m'.2.2.2 = m.2.2.2) (h : ∀ j, j ≠ id → zm_E ad ca m' j = zm_E ad ca m j) : (zm_W ad ca m).set id (ad id, zm_E ad ca m' id) = zm_W ad ca m' := by
  apply List.ext_getElem?
  intro k
  by_cases hk : k < m.2.2.2
  · by_cases e : k = id
    · subst e
      rw [List.getElem?_set_self (by rw [zm_W_len]; exact hk), zm_W_at ad ca m' (by rw [hn]; exact hk)]
    · rw [List.getElem?_set_ne (Ne.symm e), zm_W_at ad ca m hk, zm_W_at ad ca m' (by rw [hn]; exact hk), h k e]
  · rw [List.getElem?_eq_none (by rw [List.length_set, zm_W_len]; omega), List.getElem?_eq_none (by rw [zm_W_len, hn]; omega)]
def zm_t (ca : FieldType → Nat) : List (ClassId × FieldType) := [(ca .int, .int), (ca .boolean, .boolean), (ca .long, .long), (ca (.object "TornReeds$Bit"), .object "TornReeds$Bit"), (ca (.array .long), .array .long)]
/-- references stay among the cells -/
def zm_wf (m : zM) : Prop := (∀ id k j, m.2.2.1 id k = some j → j < m.2.2.2) ∧ m.2.2.2 ≤ 190
def zm_R (D : va_G) (ca : FieldType → Nat) (A : Nat → Prop) (ad : Nat → Nat) (m : zM) (H : Heap) : Prop := va_P D vwCl (zm_W ad ca m) H ∧ va_D A (zm_W ad ca m) ∧ zm_wf m
/-- the words that aren't among those a callee may have by its list -/
def zm_nest : List Cond := [.methodLinkNest RX11 11 yX9_init RX11, .methodLinkNest RX11 27 yX10_init RX11, .methodLinkNest RX11 41 yX7_init RX11, .methodLinkNest RX7 11 yX5_init RX11, .methodLinkNest RX7 27 yX4_init RX11, .methodLinkNest RX11 48 yX6_init RX11, .methodLinkNest RX11 55 yX2_init RX11, .methodLinkNest RX0 58 yX11_isText RX11, .methodLinkNest RX9 19 yX11_isLetter RX11, .methodLinkNest RX8 90 yX11_isText RX11, .methodLinkNest RX2 65 yX11_isText RX11]
theorem zm_nest_in : ∀ w ∈ zm_nest, w ∈ lw_tbl := by decide +kernel
end
section
/-- the class of arrays of long[] -/
def zm_AL (U : State) : Prop := ∃ (comp c : ClassId) (k : Class), U.vm.findClass "[J" = some comp ∧ (U.vm.classes.findIdx? fun (x : Class) => match x.kind with | .array component _ => component == comp | _ => false) = some c ∧ U.vm.classes[c]? = some k ∧ k.kind = .array comp (.array .long) ∧ U.vm.findClass "[[J" = some c
theorem zm_AL.moved {u U : State} (hvm : u.vm.Alike U.vm) (h : zm_AL u) : zm_AL U := by
  obtain ⟨comp, c, k, h1, h2, h3, h4, h5⟩ := h
  obtain ⟨k', hk', he⟩ := hvm.2.2 _ _ h3
  refine ⟨comp, c, k', by rw [hvm.findClass]; exact h1, ?_, hk', by rw [he]; exact h4, by rw [hvm.findClass]; exact h5⟩
  have e1 := va_idx_bare u.vm comp
  have e2 := va_idx_bare U.vm comp
  have e3 : u.vm.bare = U.vm.bare := by first | exact hvm.bare_eq | exact hvm.bare_eq.symm
  rw [e3] at e1
  exact (e2.symm.trans e1).trans h2
/-! what a method's walk rests on: code, class, locals' count, answer's type, height, first cell, cells made, constructor, script -/
abbrev zE : Type := ByteArray × String × Nat × Option FieldType × Nat × Nat × Nat × Bool × Option (Nat × (Nat → Int32))
def ze_cc (E : zE) : ByteArray := E.1
def ze_own (E : zE) : String := E.2.1
def ze_nL (E : zE) : Nat := E.2.2.1
def ze_ret (E : zE) : Option FieldType := E.2.2.2.1
def ze_h (E : zE) : Nat := E.2.2.2.2.1
def ze_n0 (E : zE) : Nat := E.2.2.2.2.2.1
def ze_mc (E : zE) : Nat := E.2.2.2.2.2.2.1
def ze_ini (E : zE) : Bool := E.2.2.2.2.2.2.2.1
def ze_scr (E : zE) : Option (Nat × (Nat → Int32)) := E.2.2.2.2.2.2.2.2
/-- an answer of the type -/
def z_ok (t : Option FieldType) (r : Option Value) : Prop := match t, r with
  | none, none => True
  | some .int, some (.int _) => True
  | some .boolean, some (.int v) => v = 0 ∨ v = 1
  | some (.object _), some (.ref _) => True
  | some (.object _), some .null => True
  | _, _ => False
def z_ri (r : Option Value) : Instr := match r with
  | none => .return_
  | some (.int _) => .ireturn
  | _ => .areturn
def zm_cs (E : zE) (m : zM) : Nat := m.2.2.2 - ze_n0 E
def zm_sl (E : zE) (m : zM) : Nat := zm_ss m.2.2.2 - zm_ss (ze_n0 E)
def zm_A (E : zE) (Q : Option Value → zM → Prop) (p : Program) (l : Launch) (e : Env) (R : Room) (s : State) (mi : MethodId) (args : Array Value) (below : List Frame) (meth : Method) (c : Code) (D : va_G) (ca : FieldType → Nat) (A : Nat → Prop) (b : Nat → Nat) (Z : State → Prop) : Prop :=
  p.tables.exec = Jvm.exec ∧ c.code = ze_cc E ∧ c.maxLocals = ze_nL E ∧ s.vm.findClass (ze_own E) = some mi.cls ∧ (∀ w ∈ zm_g, w.before args s = true) ∧
  (∀ w ∈ zm_nest, va_Nw w s) ∧ va_AO "TornReeds$Bit" s ∧ zm_AL s ∧
  va_K D vwCl (zm_t ca) s ∧ (∀ q, s.heap.size ≤ q → A q) ∧
  (ze_h E ≤ R.frames ∧ 40 * ze_h E ≤ R.locals ∧ ze_mc E ≤ R.cells ∧ zm_ss (ze_n0 E + ze_mc E) - zm_ss (ze_n0 E) ≤ R.slots) ∧
  (ze_ini E = true → meth.name = "<init>") ∧
  (∀ q, ze_scr E = some q → va_X (b 1000) q.1 q.2 s s.heap ∧ b 1000 < s.heap.size ∧ ¬ A (b 1000)) ∧
  (∀ (r : Option Value) (m : zM) (ad : Nat → Nat) (H : Heap) (locs : List Loc) (pc : Nat) (ls : Array Slot), z_ok (ze_ret E) r → decode (ze_cc E) pc = .ok (z_ri r, 1) → z_eq (ze_n0 E) b ad → zm_R D ca A ad m H → va_S A s.heap H locs → (∀ v, r = some v → z_w m.2.2.2 v) → m.2.2.2 = ze_n0 E + ze_mc E → Q r m →
    W p l e R s mi args below meth c H locs (zm_cs E m) (zm_sl E m) Z (F0 mi pc ls (z_s ad r.toList)))
def Wp (E : zE) (Q : Option Value → zM → Prop) (pc : Nat) (lv : List (Nat × Value)) (st : List Value) (m : zM) : Prop :=
  ∀ (p : Program) (l : Launch) (e : Env) (R : Room) (s : State) (mi : MethodId) (args : Array Value) (below : List Frame) (meth : Method) (c : Code) (D : va_G) (ca : FieldType → Nat) (A : Nat → Prop) (b : Nat → Nat) (Z : State → Prop), zm_A E Q p l e R s mi args below meth c D ca A b Z →
    ∀ (ad : Nat → Nat) (H : Heap) (locs : List Loc) (ls : Array Slot), z_eq (ze_n0 E) b ad → zm_R D ca A ad m H → va_S A s.heap H locs → z_wl m.2.2.2 lv → z_ws m.2.2.2 st → ze_n0 E ≤ m.2.2.2 → lv_has ls (ze_nL E) (z_l ad lv) →
    W p l e R s mi args below meth c H locs (zm_cs E m) (zm_sl E m) Z (F0 mi pc ls (z_s ad st))
section WR
variable {E : zE} {Q : Option Value → zM → Prop} {pc : Nat} {lv : List (Nat × Value)} {st : List Value} {m : zM}
/-- the same answer wanted more weakly -/
theorem wp_mono {Q' : Option Value → zM → Prop} (h : ∀ r m', Q r m' → Q' r m') (k : Wp E Q pc lv st m) : Wp E Q' pc lv st m := by
  intro p l e R s mi args below meth c D ca A b Z hA ad H locs ls h1 h2 h3 h4 h5 h6 h7
  obtain ⟨a1, a2, a3, a4, a5, a6, a7, a8, a9, a10, a11, a12, a13, a14⟩ := hA
  exact k p l e R s mi args below meth c D ca A b Z ⟨a1, a2, a3, a4, a5, a6, a7, a8, a9, a10, a11, a12, a13, fun r m2 ad2 H2 locs2 pc2 ls2 b1 b2 b3 b4 b5 b6 b7 b8 => a14 r m2 ad2 H2 locs2 pc2 ls2 b1 b2 b3 b4 b5 b6 b7 (h _ _ b8)⟩ ad H locs ls h1 h2 h3 h4 h5 h6 h7
/-- fewer locals, in another order -/
theorem w_sub (lv' : List (Nat × Value)) (ks : List Nat) (hl : lv_pick lv ks = lv') (k : Wp E Q pc lv' st m) : Wp E Q pc lv st m := by
  intro p l e R s mi args below meth c D ca A b Z hA ad H locs ls h1 h2 h3 h4 h5 h6 h7
  refine k p l e R s mi args below meth c D ca A b Z hA ad H locs ls h1 h2 h3 ?_ h5 h6 ?_
  · intro q hq
    rw [← hl] at hq
    obtain ⟨i, -, hi⟩ := List.mem_filterMap.mp hq
    exact h4 q (List.mem_of_getElem? hi)
  · refine ⟨h7.1, h7.2.1, fun q hq => ?_⟩
    obtain ⟨q0, hq0, rfl⟩ := List.mem_map.mp hq
    rw [← hl] at hq0
    obtain ⟨i, -, hi⟩ := List.mem_filterMap.mp hq0
    exact h7.2.2 _ (List.mem_map.mpr ⟨q0, List.mem_of_getElem? hi, rfl⟩)
/-- the end -/
theorem w_ret (r : Option Value) (hdg : decode (ze_cc E) pc = .ok (z_ri r, 1)) (hok : z_ok (ze_ret E) r) (hn : m.2.2.2 = ze_n0 E + ze_mc E) (k : Q r m) : Wp E Q pc lv r.toList m := by
  intro p l e R s mi args below meth c D ca A b Z hA ad H locs ls h1 h2 h3 h4 h5 h6 h7
  obtain ⟨a1, a2, a3, a4, a5, a6, a7, a8, a9, a10, a11, a12, a13, a14⟩ := hA
  exact a14 r m ad H locs pc ls hok hdg h1 h2 h3 (fun v hv => h5 v (by rw [hv]; exact List.mem_cons_self)) hn k
end WR
end
section
/-! locals by their numbers, in order -/
def z_get : List (Nat × Value) → Nat → Option Value
  | [], _ => none
  | q :: t, i => cond (Nat.beq q.1 i) (some q.2) (z_get t i)
def z_ins : List (Nat × Value) → Nat → Value → List (Nat × Value)
  | [], i, v => [(i, v)]
  | q :: t, i, v => cond (Nat.blt i q.1) ((i, v) :: q :: t) (q :: z_ins t i v)
def z_del : List (Nat × Value) → Nat → List (Nat × Value)
  | [], _ => []
  | q :: t, i => cond (Nat.beq q.1 i) (z_del t i) (q :: z_del t i)
def z_put (lv : List (Nat × Value)) (i : Nat) (v : Value) : List (Nat × Value) := z_ins (z_del lv i) i v
/-- no long just ahead of i -/
def z_nol : List (Nat × Value) → Nat → Bool
  | [], _ => true
  | q :: t, i => cond (Nat.beq (q.1 + 1) i) (Nat.beq q.2.category 1 && z_nol t i) (z_nol t i)
/-- nothing at i -/
def z_non : List (Nat × Value) → Nat → Bool
  | [], _ => true
  | q :: t, i => cond (Nat.beq q.1 i) false (z_non t i)
theorem z_get_mem : ∀ {lv : List (Nat × Value)} {i : Nat} {v : Value}, z_get lv i = some v → (i, v) ∈ lv
  | [], _, _, h => by cases h
  | q :: t, i, v, h => by
    unfold z_get at h
    cases e : Nat.beq q.1 i with
    | true =>
      rw [e] at h
      have e1 := Nat.eq_of_beq_eq_true e
      have e2 : q.2 = v := Option.some.inj h
      rw [← e1, ← e2]
      exact List.mem_cons_self
    | false =>
      rw [e] at h
      exact List.mem_cons_of_mem _ (z_get_mem h)
theorem z_ins_mem : ∀ {lv : List (Nat × Value)} {i : Nat} {v : Value} {x : Nat × Value}, x ∈ z_ins lv i v → x = (i, v) ∨ x ∈ lv
  | [], _, _, _, h => Or.inl (List.mem_singleton.mp h)
  | q :: t, i, v, x, h => by
    unfold z_ins at h
    cases e : Nat.blt i q.1 with
    | true =>
      rw [e] at h
      exact (List.mem_cons.mp h).imp id id
    | false =>
      rw [e] at h
      rcases List.mem_cons.mp h with h | h
      · exact Or.inr (h ▸ List.mem_cons_self)
      · exact (z_ins_mem h).imp id (List.mem_cons_of_mem _)
theorem z_del_mem : ∀ {lv : List (Nat × Value)} {i : Nat} {x : Nat × Value}, x ∈ z_del lv i → x ∈ lv ∧ x.1 ≠ i
  | [], _, _, h => by cases h
  | q :: t, i, x, h => by
    unfold z_del at h
    cases e : Nat.beq q.1 i with
    | true =>
      rw [e] at h
      exact ⟨List.mem_cons_of_mem _ (z_del_mem h).1, (z_del_mem h).2⟩
    | false =>
      rw [e] at h
      rcases List.mem_cons.mp h with h | h
      · subst h
        exact ⟨List.mem_cons_self, fun q => by rw [q, Nat.beq_refl] at e; cases e⟩
      · exact ⟨List.mem_cons_of_mem _ (z_del_mem h).1, (z_del_mem h).2⟩
theorem z_put_mem {lv : List (Nat × Value)} {i : Nat} {v : Value} {x : Nat × Value} (h : x ∈ z_put lv i v) : x = (i, v) ∨ (x ∈ lv ∧ x.1 ≠ i) := (z_ins_mem h).imp id z_del_mem
theorem z_nol_mem : ∀ {lv : List (Nat × Value)} {i : Nat} {x : Nat × Value}, z_nol lv i = true → x ∈ lv → ¬ (x.1 + 1 = i ∧ x.2.category = 2)
  | [], _, _, _, h => by cases h
  | q :: t, i, x, hn, h => by
    unfold z_nol at hn
    rcases List.mem_cons.mp h with h | h
    · subst h
      rintro ⟨h1, h2⟩
      rw [h1, Nat.beq_refl, h2] at hn
      cases hn
    · cases e : Nat.beq (q.1 + 1) i with
      | true =>
        rw [e] at hn
        exact z_nol_mem ((Bool.and_eq_true _ _).mp hn).2 h
      | false =>
        rw [e] at hn
        exact z_nol_mem hn h
theorem z_non_mem : ∀ {lv : List (Nat × Value)} {i : Nat} {x : Nat × Value}, z_non lv i = true → x ∈ lv → x.1 ≠ i
  | [], _, _, _, h => by cases h
  | q :: t, i, x, hn, h => by
    unfold z_non at hn
    cases e : Nat.beq q.1 i with
    | true => rw [e] at hn; cases hn
    | false =>
      rw [e] at hn
      rcases List.mem_cons.mp h with h | h
      · subst h
        exact fun q => by rw [q, Nat.beq_refl] at e; cases e
      · exact z_non_mem hn h
theorem z_get_w {n : Nat} {lv : List (Nat × Value)} {i : Nat} {v : Value} (h : z_wl n lv) (hl : z_get lv i = some v) : z_w n v := h _ (z_get_mem hl)
theorem z_put_w {n : Nat} {lv : List (Nat × Value)} {i : Nat} {v : Value} (h : z_wl n lv) (hv : z_w n v) : z_wl n (z_put lv i v) := fun x hx => (z_put_mem hx).elim (fun e => e ▸ hv) (fun q => h x q.1)
theorem zl_at {ls : Array Slot} {nL : Nat} {ad : Nat → Nat} {lv : List (Nat × Value)} {i : Nat} {v : Value} (h : lv_has ls nL (z_l ad lv)) (hl : z_get lv i = some v) : ls[i]? = some (.val (z_c ad v)) := h.2.2 _ (List.mem_map.mpr ⟨(i, v), z_get_mem hl, rfl⟩)
theorem zl_pos {ad : Nat → Nat} {lv : List (Nat × Value)} {i : Nat} {v : Value} (hl : z_get lv i = some v) : ∃ k : Nat, (z_l ad lv)[k]? = some (i, z_c ad v) := List.getElem?_of_mem (List.mem_map.mpr ⟨(i, v), z_get_mem hl, rfl⟩)
theorem z_put_has {ls : Array Slot} {nL : Nat} {ad : Nat → Nat} {lv : List (Nat × Value)} {i : Nat} {v : Value} (hno : z_nol lv i = true) (h : lv_has ls nL ((i, z_c ad v) :: (z_l ad lv).filter (fun q => !(q.1 == i) && !(q.1 + 1 == i && q.2.category == 2)))) : lv_has ls nL (z_l ad (z_put lv i v)) := by
  refine ⟨h.1, h.2.1, fun q hq => ?_⟩
  obtain ⟨x, hx, rfl⟩ := List.mem_map.mp hq
  rcases z_put_mem hx with e | ⟨e1, e2⟩
  · subst e
    exact h.2.2 _ List.mem_cons_self
  · refine h.2.2 _ (List.mem_cons_of_mem _ (List.mem_filter.mpr ⟨List.mem_map.mpr ⟨x, e1, rfl⟩, ?_⟩))
    have e3 := z_nol_mem hno e1
    simp only [z_cat]
    simp only [Bool.and_eq_true, Bool.not_eq_true', beq_eq_false_iff_ne, ne_eq, Bool.and_eq_false_iff]
    refine ⟨e2, ?_⟩
    by_cases q1 : x.1 + 1 = i
    · exact Or.inr fun q2 => e3 ⟨q1, q2⟩
    · exact Or.inl q1
theorem z_put_hasL {ls : Array Slot} {nL : Nat} {ad : Nat → Nat} {lv : List (Nat × Value)} {i : Nat} {v : Value} (hno : z_nol lv i = true) (hn2 : z_non lv (i + 1) = true) (h : lv_has ls nL ((i, z_c ad v) :: (z_l ad lv).filter (fun q => !(q.1 == i) && (!(q.1 == i + 1) && !(q.1 + 1 == i && q.2.category == 2))))) : lv_has ls nL (z_l ad (z_put lv i v)) := by
  refine ⟨h.1, h.2.1, fun q hq => ?_⟩
  obtain ⟨x, hx, rfl⟩ := List.mem_map.mp hq
  rcases z_put_mem hx with e | ⟨e1, e2⟩
  · subst e
    exact h.2.2 _ List.mem_cons_self
  · refine h.2.2 _ (List.mem_cons_of_mem _ (List.mem_filter.mpr ⟨List.mem_map.mpr ⟨x, e1, rfl⟩, ?_⟩))
    have e3 := z_nol_mem hno e1
    have e4 := z_non_mem hn2 e1
    simp only [z_cat]
    simp only [Bool.and_eq_true, Bool.not_eq_true', beq_eq_false_iff_ne, ne_eq, Bool.and_eq_false_iff]
    refine ⟨e2, e4, ?_⟩
    by_cases q1 : x.1 + 1 = i
    · exact Or.inr fun q2 => e3 ⟨q1, q2⟩
    · exact Or.inl q1
/-! memory: one place changes -/
def z_u {α : Type} (f : Nat → Nat → α) (id k : Nat) (v : α) : Nat → Nat → α := fun i j => if i = id ∧ j = k then v else f i j
def z_uI (m : zM) (id k : Nat) (x : Int32) : zM := (z_u m.1 id k x, m.2)
def z_uJ (m : zM) (id k : Nat) (x : Int64) : zM := (m.1, z_u m.2.1 id k x, m.2.2)
def z_uR (m : zM) (id k j : Nat) : zM := (m.1, m.2.1, z_u m.2.2.1 id k (some j), m.2.2.2)
theorem z_u_ne {α : Type} {f : Nat → Nat → α} {id k i : Nat} {v : α} (h : i ≠ id) : z_u f id k v i = f i := by
  funext j
  exact if_neg fun q => h q.1
theorem z_u_row {α : Type} {f : Nat → Nat → α} {id k : Nat} {v : α} (j : Nat) : z_u f id k v id j = if j = k then v else f id j := by
  by_cases h : j = k
  · rw [if_pos h]; exact if_pos ⟨rfl, h⟩
  · rw [if_neg h]; exact if_neg fun q => h q.2
theorem zm_E_cong {ad : Nat → Nat} {ca : FieldType → Nat} {m m' : zM} {j : Nat} (h1 : m'.1 j = m.1 j) (h2 : m'.2.1 j = m.2.1 j) (h3 : m'.2.2.1 j = m.2.2.1 j) : zm_E ad ca m' j = zm_E ad ca m j := by
  unfold zm_E
  cases zm_sh j with
  | inl ci =>
    simp only
    congr 2
    apply List.map_congr_left
    intro k _
    unfold zm_f
    rw [h1, h2, h3]
  | inr q =>
    simp only
    congr 2
    unfold zm_a
    rw [h1, h2, h3]
def zm_fl (own : String) (idx ci kf : Nat) : Prop := ci < 13 ∧ kf < zm_N ci ∧ Cond.fieldLink own idx (zm_F ci kf).1 (zm_F ci kf).2.1 (zm_F ci kf).2.2.1 ∈ zm_g
def zm_rt (t : FieldType) : Bool := match t with
  | .object _ => true
  | .array _ => true
  | _ => false
theorem zm_W_obj (ad : Nat → Nat) (ca : FieldType → Nat) (m : zM) {id ci : Nat} (h : id < m.2.2.2) (hs : zm_sh id = .inl ci) : (zm_W ad ca m)[id]? = some (ad id, .inr (ci, (List.range (zm_N ci)).map (fun k => zm_f ad m id k (zm_T ci k)))) := by
  rw [zm_W_at ad ca m h]
  unfold zm_E
  rw [hs]
theorem zm_W_arr (ad : Nat → Nat) (ca : FieldType → Nat) (m : zM) {id n : Nat} {ty : FieldType} (h : id < m.2.2.2) (hs : zm_sh id = .inr (ty, n)) : (zm_W ad ca m)[id]? = some (ad id, .inl (ca ty, zm_a ad m id n ty)) := by
  rw [zm_W_at ad ca m h]
  unfold zm_E
  rw [hs]
theorem zm_fat (ad : Nat → Nat) (m : zM) (id : Nat) {ci kf : Nat} (hk : kf < zm_N ci) : ((List.range (zm_N ci)).map (fun k => zm_f ad m id k (zm_T ci k)))[kf]? = some (zm_f ad m id kf (zm_T ci kf)) := by
  rw [List.getElem?_map, List.getElem?_range hk]; rfl
theorem zm_fI (ad : Nat → Nat) (m : zM) (id : Nat) {ci kf : Nat} (hk : kf < zm_N ci) (ht : zm_T ci kf = .int ∨ zm_T ci kf = .boolean) : ((List.range (zm_N ci)).map (fun k => zm_f ad m id k (zm_T ci k)))[kf]? = some (.int (m.1 id kf)) := by
  rw [zm_fat ad m id hk]
  rcases ht with h | h <;> rw [h] <;> rfl
theorem zm_fR (ad : Nat → Nat) (m : zM) (id : Nat) {ci kf j : Nat} (hk : kf < zm_N ci) (ht : zm_rt (zm_T ci kf) = true) (hj : m.2.2.1 id kf = some j) : ((List.range (zm_N ci)).map (fun k => zm_f ad m id k (zm_T ci k)))[kf]? = some (.ref (ad j)) := by
  rw [zm_fat ad m id hk]
  cases h : zm_T ci kf <;> rw [h] at ht <;> first | (cases ht; done) | (unfold zm_f; simp only [hj]; rfl)
theorem zm_nI {ty : FieldType} {x : Int32} (ht : ty = .int ∨ (ty = .boolean ∧ (x = 0 ∨ x = 1))) : narrow ty (.int x) = .int x ∧ fits ty (.int x) = true := by
  rcases ht with rfl | ⟨rfl, rfl | rfl⟩
  · exact ⟨rfl, rfl⟩
  · exact ⟨rfl, rfl⟩
  · exact ⟨by decide +kernel, by decide +kernel⟩
theorem zm_nR {ty : FieldType} (a : Nat) (ht : zm_rt ty = true) : narrow ty (.ref a) = .ref a ∧ fits ty (.ref a) = true := by
  cases ty <;> first | (cases ht; done) | exact ⟨rfl, rfl⟩
theorem zm_narZ {x : Int32} (h : x = 0 ∨ x = 1) : vp_nar .boolean x = x := by
  rcases h with rfl | rfl <;> decide +kernel
theorem zm_setI (ad : Nat → Nat) (ca : FieldType → Nat) {m : zM} {id ci kf : Nat} {x : Int32} (h : id < m.2.2.2) (hs : zm_sh id = .inl ci) (hk : kf < zm_N ci) (ht : zm_T ci kf = .int ∨ zm_T ci kf = .boolean) : (zm_W ad ca m).set id (ad id, .inr (ci, ((List.range (zm_N ci)).map (fun k => zm_f ad m id k (zm_T ci k))).set kf (.int x))) = zm_W ad ca (z_uI m id kf x) := by
  rw [← zm_W_set ad ca (m := m) (m' := z_uI m id kf x) (id := id) rfl (fun j hj => zm_E_cong (z_u_ne hj) rfl rfl)]
  congr 3
  unfold zm_E
  rw [hs]
  simp only
  congr 2
  apply List.ext_getElem?
  intro k
  by_cases hk2 : k < zm_N ci
  · rw [zm_fat ad _ id hk2]
    by_cases e : k = kf
    · subst e
      rw [List.getElem?_set_self (by simpa using hk)]
      rcases ht with q | q <;> rw [q] <;> simp [zm_f, z_uI, z_u]
    · rw [List.getElem?_set_ne (Ne.symm e), zm_fat ad m id hk2]
      unfold zm_f z_uI
      simp [z_u, e]
  · rw [List.getElem?_eq_none (by simp; omega), List.getElem?_eq_none (by simp; omega)]
theorem zm_setR (ad : Nat → Nat) (ca : FieldType → Nat) {m : zM} {id ci kf j : Nat} (h : id < m.2.2.2) (hs : zm_sh id = .inl ci) (hk : kf < zm_N ci) (ht : zm_rt (zm_T ci kf) = true) : (zm_W ad ca m).set id (ad id, .inr (ci, ((List.range (zm_N ci)).map (fun k => zm_f ad m id k (zm_T ci k))).set kf (.ref (ad j)))) = zm_W ad ca (z_uR m id kf j) := by
  rw [← zm_W_set ad ca (m := m) (m' := z_uR m id kf j) (id := id) rfl (fun i hi => zm_E_cong rfl rfl (z_u_ne hi))]
  congr 3
  unfold zm_E
  rw [hs]
  simp only
  congr 2
  apply List.ext_getElem?
  intro k
  by_cases hk2 : k < zm_N ci
  · rw [zm_fat ad _ id hk2]
    by_cases e : k = kf
    · subst e
      rw [List.getElem?_set_self (by simpa using hk)]
      cases q : zm_T ci k <;> rw [q] at ht <;> first | (cases ht; done) | simp [zm_f, z_uR, z_u, va_rf]
    · rw [List.getElem?_set_ne (Ne.symm e), zm_fat ad m id hk2]
      unfold zm_f z_uR
      simp [z_u, e]
  · rw [List.getElem?_eq_none (by simp; omega), List.getElem?_eq_none (by simp; omega)]
theorem zm_setAI (ad : Nat → Nat) (ca : FieldType → Nat) {m : zM} {id n kf : Nat} {x : Int32} (h : id < m.2.2.2) (hs : zm_sh id = .inr (.int, n)) : (zm_W ad ca m).set id (ad id, .inl (ca .int, n, .inl (upd (m.1 id) kf x))) = zm_W ad ca (z_uI m id kf x) := by
  rw [← zm_W_set ad ca (m := m) (m' := z_uI m id kf x) (id := id) rfl (fun j hj => zm_E_cong (z_u_ne hj) rfl rfl)]
  congr 3
  unfold zm_E
  rw [hs]
  simp only [zm_a, z_uI]
  congr 4
  funext j
  exact (z_u_row j).symm
theorem zm_setAZ (ad : Nat → Nat) (ca : FieldType → Nat) {m : zM} {id n kf : Nat} {x : Int32} (h : id < m.2.2.2) (hs : zm_sh id = .inr (.boolean, n)) : (zm_W ad ca m).set id (ad id, .inl (ca .boolean, n, .inl (upd (m.1 id) kf x))) = zm_W ad ca (z_uI m id kf x) := by
  rw [← zm_W_set ad ca (m := m) (m' := z_uI m id kf x) (id := id) rfl (fun j hj => zm_E_cong (z_u_ne hj) rfl rfl)]
  congr 3
  unfold zm_E
  rw [hs]
  simp only [zm_a, z_uI]
  congr 4
  funext j
  exact (z_u_row j).symm
theorem zm_setAJ (ad : Nat → Nat) (ca : FieldType → Nat) {m : zM} {id n kf : Nat} {x : Int64} (h : id < m.2.2.2) (hs : zm_sh id = .inr (.long, n)) : (zm_W ad ca m).set id (ad id, .inl (ca .long, n, .inr (.inl (vp_updL (m.2.1 id) kf x)))) = zm_W ad ca (z_uJ m id kf x) := by
  rw [← zm_W_set ad ca (m := m) (m' := z_uJ m id kf x) (id := id) rfl (fun j hj => zm_E_cong rfl (z_u_ne hj) rfl)]
  congr 3
  unfold zm_E
  rw [hs]
  simp only [zm_a, z_uJ]
  congr 5
  funext j
  exact (z_u_row j).symm
theorem zm_setAR (ad : Nat → Nat) (ca : FieldType → Nat) {m : zM} {id n kf q : Nat} (h : id < m.2.2.2) (hs : zm_sh id = .inr (.object "TornReeds$Bit", n)) : (zm_W ad ca m).set id (ad id, .inl (ca (.object "TornReeds$Bit"), n, .inr (.inr (.inr (.inr (va_up (fun k => (m.2.2.1 id k).map ad) kf (some (ad q)))))))) = zm_W ad ca (z_uR m id kf q) := by
  rw [← zm_W_set ad ca (m := m) (m' := z_uR m id kf q) (id := id) rfl (fun j hj => zm_E_cong rfl rfl (z_u_ne hj))]
  congr 3
  unfold zm_E
  rw [hs]
  simp only [zm_a, z_uR]
  congr 8
  funext j
  rw [z_u_row]
  unfold va_up
  by_cases e : j = kf <;> simp [e]
theorem zm_wf_uR {m : zM} {id k j : Nat} (h : zm_wf m) (hj : j < m.2.2.2) : zm_wf (z_uR m id k j) := by
  refine ⟨fun i q r e => ?_, h.2⟩
  have e' : (if i = id ∧ q = k then some j else m.2.2.1 i q) = some r := e
  by_cases hc : i = id ∧ q = k
  · rw [if_pos hc] at e'
    cases e'
    exact hj
  · rw [if_neg hc] at e'
    exact h.1 _ _ _ e'
section WI
variable {E : zE} {Q : Option Value → zM → Prop} {pc : Nat} {lv : List (Nat × Value)} {st : List Value} {m : zM}
theorem w_iconst {n : Int} {v : Int32} (hdg : decode (ze_cc E) pc = .ok (.iconst n, 1)) (hv : Int32.ofInt n = v) (k : Wp E Q (pc + 1) lv (.int v :: st) m) : Wp E Q pc lv st m := by
  intro p l e R s mi args below meth c D ca A b Z hA ad H locs ls h1 h2 h3 h4 h5 h6 h7
  have hx := hA.1
  have hb := hA.2.1
  exact lv_iconst hx hb hdg hv (k p l e R s mi args below meth c D ca A b Z hA ad H locs ls h1 h2 h3 h4 (z_ws_cons trivial h5) h6 h7)
theorem w_bipush {n : Int} {v : Int32} (hdg : decode (ze_cc E) pc = .ok (.bipush n, 2)) (hv : (Int8.ofInt n).toInt32 = v) (k : Wp E Q (pc + 2) lv (.int v :: st) m) : Wp E Q pc lv st m := by
  intro p l e R s mi args below meth c D ca A b Z hA ad H locs ls h1 h2 h3 h4 h5 h6 h7
  have hx := hA.1
  have hb := hA.2.1
  exact lv_bipush hx hb hdg hv (k p l e R s mi args below meth c D ca A b Z hA ad H locs ls h1 h2 h3 h4 (z_ws_cons trivial h5) h6 h7)
theorem w_sipush {n : Int} {v : Int32} (hdg : decode (ze_cc E) pc = .ok (.sipush n, 3)) (hv : (Int16.ofInt n).toInt32 = v) (k : Wp E Q (pc + 3) lv (.int v :: st) m) : Wp E Q pc lv st m := by
  intro p l e R s mi args below meth c D ca A b Z hA ad H locs ls h1 h2 h3 h4 h5 h6 h7
  have hx := hA.1
  have hb := hA.2.1
  exact lv_sipush hx hb hdg hv (k p l e R s mi args below meth c D ca A b Z hA ad H locs ls h1 h2 h3 h4 (z_ws_cons trivial h5) h6 h7)
theorem w_lconst {n : Fin 2} {v : Int64} (hdg : decode (ze_cc E) pc = .ok (.lconst n, 1)) (hv : Int64.ofNat (n : Nat) = v) (k : Wp E Q (pc + 1) lv (.long v :: st) m) : Wp E Q pc lv st m := by
  intro p l e R s mi args below meth c D ca A b Z hA ad H locs ls h1 h2 h3 h4 h5 h6 h7
  have hx := hA.1
  have hb := hA.2.1
  exact lv_lconst hx hb hdg hv (k p l e R s mi args below meth c D ca A b Z hA ad H locs ls h1 h2 h3 h4 (z_ws_cons trivial h5) h6 h7)
theorem w_null  (hdg : decode (ze_cc E) pc = .ok (.aconst_null, 1))  (k : Wp E Q (pc + 1) lv (.null :: st) m) : Wp E Q pc lv st m := by
  intro p l e R s mi args below meth c D ca A b Z hA ad H locs ls h1 h2 h3 h4 h5 h6 h7
  have hx := hA.1
  have hb := hA.2.1
  exact lv_null hx hb hdg (k p l e R s mi args below meth c D ca A b Z hA ad H locs ls h1 h2 h3 h4 (z_ws_cons trivial h5) h6 h7)
theorem w_ldc2 {index : Nat} {v : Int64} (hdg : decode (ze_cc E) pc = .ok (.ldc2_w index, 3)) (hc : Cond.constantLong (ze_own E) index v ∈ zm_g) (k : Wp E Q (pc + 3) lv (.long v :: st) m) : Wp E Q pc lv st m := by
  intro p l e R s mi args below meth c D ca A b Z hA ad H locs ls h1 h2 h3 h4 h5 h6 h7
  have hx := hA.1
  have hb := hA.2.1
  exact lv_ldc2 hx hb hA.2.2.2.1 (hA.2.2.2.2.1 _ hc) hdg (k p l e R s mi args below meth c D ca A b Z hA ad H locs ls h1 h2 h3 h4 (z_ws_cons trivial h5) h6 h7)
theorem w_iload {i : Nat} {x : Int32} (hdg : decode (ze_cc E) pc = .ok (.iload i, 2)) (hl : z_get lv i = some (.int x)) (k : Wp E Q (pc + 2) lv (.int x :: st) m) : Wp E Q pc lv st m := by
  intro p l e R s mi args below meth c D ca A b Z hA ad H locs ls h1 h2 h3 h4 h5 h6 h7
  have hx := hA.1
  have hb := hA.2.1
  exact lv_iload hx hb hdg (zl_at h7 hl) (k p l e R s mi args below meth c D ca A b Z hA ad H locs ls h1 h2 h3 h4 (z_ws_cons (z_get_w h4 hl) h5) h6 h7)
theorem w_iload_n {i : Fin 4} {x : Int32} (hdg : decode (ze_cc E) pc = .ok (.iload_n i, 1)) (hl : z_get lv (i : Nat) = some (.int x)) (k : Wp E Q (pc + 1) lv (.int x :: st) m) : Wp E Q pc lv st m := by
  intro p l e R s mi args below meth c D ca A b Z hA ad H locs ls h1 h2 h3 h4 h5 h6 h7
  have hx := hA.1
  have hb := hA.2.1
  exact lv_iload_n hx hb hdg rfl (zl_at h7 hl) (k p l e R s mi args below meth c D ca A b Z hA ad H locs ls h1 h2 h3 h4 (z_ws_cons (z_get_w h4 hl) h5) h6 h7)
theorem w_lload {i : Nat} {x : Int64} (hdg : decode (ze_cc E) pc = .ok (.lload i, 2)) (hl : z_get lv i = some (.long x)) (k : Wp E Q (pc + 2) lv (.long x :: st) m) : Wp E Q pc lv st m := by
  intro p l e R s mi args below meth c D ca A b Z hA ad H locs ls h1 h2 h3 h4 h5 h6 h7
  have hx := hA.1
  have hb := hA.2.1
  exact lv_lload hx hb hdg (zl_at h7 hl) (k p l e R s mi args below meth c D ca A b Z hA ad H locs ls h1 h2 h3 h4 (z_ws_cons (z_get_w h4 hl) h5) h6 h7)
theorem w_lload_n {i : Fin 4} {x : Int64} (hdg : decode (ze_cc E) pc = .ok (.lload_n i, 1)) (hl : z_get lv (i : Nat) = some (.long x)) (k : Wp E Q (pc + 1) lv (.long x :: st) m) : Wp E Q pc lv st m := by
  intro p l e R s mi args below meth c D ca A b Z hA ad H locs ls h1 h2 h3 h4 h5 h6 h7
  have hx := hA.1
  have hb := hA.2.1
  exact lv_lload_n hx hb hdg rfl (zl_at h7 hl) (k p l e R s mi args below meth c D ca A b Z hA ad H locs ls h1 h2 h3 h4 (z_ws_cons (z_get_w h4 hl) h5) h6 h7)
theorem w_aload {i : Nat} {x : Nat} (hdg : decode (ze_cc E) pc = .ok (.aload i, 2)) (hl : z_get lv i = some (.ref x)) (k : Wp E Q (pc + 2) lv (.ref x :: st) m) : Wp E Q pc lv st m := by
  intro p l e R s mi args below meth c D ca A b Z hA ad H locs ls h1 h2 h3 h4 h5 h6 h7
  have hx := hA.1
  have hb := hA.2.1
  exact lv_aload hx hb hdg (zl_at h7 hl) (k p l e R s mi args below meth c D ca A b Z hA ad H locs ls h1 h2 h3 h4 (z_ws_cons (z_get_w h4 hl) h5) h6 h7)
theorem w_aload_n {i : Fin 4} {x : Nat} (hdg : decode (ze_cc E) pc = .ok (.aload_n i, 1)) (hl : z_get lv (i : Nat) = some (.ref x)) (k : Wp E Q (pc + 1) lv (.ref x :: st) m) : Wp E Q pc lv st m := by
  intro p l e R s mi args below meth c D ca A b Z hA ad H locs ls h1 h2 h3 h4 h5 h6 h7
  have hx := hA.1
  have hb := hA.2.1
  exact lv_aload_n hx hb hdg rfl (zl_at h7 hl) (k p l e R s mi args below meth c D ca A b Z hA ad H locs ls h1 h2 h3 h4 (z_ws_cons (z_get_w h4 hl) h5) h6 h7)
theorem w_istore {i : Nat} {x : Int32} (hdg : decode (ze_cc E) pc = .ok (.istore i, 2)) (hi : Nat.blt i (ze_nL E) = true) (hno : z_nol lv i = true) (k : Wp E Q (pc + 2) (z_put lv i (.int x)) st m) : Wp E Q pc lv (.int x :: st) m := by
  intro p l e R s mi args below meth c D ca A b Z hA ad H locs ls h1 h2 h3 h4 h5 h6 h7
  have hx := hA.1
  have hb := hA.2.1
  refine lv_istore hx hb hdg h7 (Nat.blt_eq.mp hi) rfl fun ls' hl' => ?_
  exact k p l e R s mi args below meth c D ca A b Z hA ad H locs ls' h1 h2 h3 (z_put_w h4 (z_ws_head h5)) (z_ws_tail h5) h6 (z_put_has hno hl')
theorem w_istore_n {i : Fin 4} {x : Int32} (hdg : decode (ze_cc E) pc = .ok (.istore_n i, 1)) (hi : Nat.blt (i : Nat) (ze_nL E) = true) (hno : z_nol lv (i : Nat) = true) (k : Wp E Q (pc + 1) (z_put lv (i : Nat) (.int x)) st m) : Wp E Q pc lv (.int x :: st) m := by
  intro p l e R s mi args below meth c D ca A b Z hA ad H locs ls h1 h2 h3 h4 h5 h6 h7
  have hx := hA.1
  have hb := hA.2.1
  refine lv_istore_n hx hb hdg rfl h7 (Nat.blt_eq.mp hi) rfl fun ls' hl' => ?_
  exact k p l e R s mi args below meth c D ca A b Z hA ad H locs ls' h1 h2 h3 (z_put_w h4 (z_ws_head h5)) (z_ws_tail h5) h6 (z_put_has hno hl')
theorem w_astore {i : Nat} {x : Nat} (hdg : decode (ze_cc E) pc = .ok (.astore i, 2)) (hi : Nat.blt i (ze_nL E) = true) (hno : z_nol lv i = true) (k : Wp E Q (pc + 2) (z_put lv i (.ref x)) st m) : Wp E Q pc lv (.ref x :: st) m := by
  intro p l e R s mi args below meth c D ca A b Z hA ad H locs ls h1 h2 h3 h4 h5 h6 h7
  have hx := hA.1
  have hb := hA.2.1
  refine lv_astore hx hb hdg h7 (Nat.blt_eq.mp hi) rfl fun ls' hl' => ?_
  exact k p l e R s mi args below meth c D ca A b Z hA ad H locs ls' h1 h2 h3 (z_put_w h4 (z_ws_head h5)) (z_ws_tail h5) h6 (z_put_has hno hl')
theorem w_astore_n {i : Fin 4} {x : Nat} (hdg : decode (ze_cc E) pc = .ok (.astore_n i, 1)) (hi : Nat.blt (i : Nat) (ze_nL E) = true) (hno : z_nol lv (i : Nat) = true) (k : Wp E Q (pc + 1) (z_put lv (i : Nat) (.ref x)) st m) : Wp E Q pc lv (.ref x :: st) m := by
  intro p l e R s mi args below meth c D ca A b Z hA ad H locs ls h1 h2 h3 h4 h5 h6 h7
  have hx := hA.1
  have hb := hA.2.1
  refine lv_astore_n hx hb hdg rfl h7 (Nat.blt_eq.mp hi) rfl fun ls' hl' => ?_
  exact k p l e R s mi args below meth c D ca A b Z hA ad H locs ls' h1 h2 h3 (z_put_w h4 (z_ws_head h5)) (z_ws_tail h5) h6 (z_put_has hno hl')
theorem w_lstore {i : Nat} {x : Int64} (hdg : decode (ze_cc E) pc = .ok (.lstore i, 2)) (hi : Nat.blt (i + 1) (ze_nL E) = true) (hno : z_nol lv i = true) (hn2 : z_non lv (i + 1) = true) (k : Wp E Q (pc + 2) (z_put lv i (.long x)) st m) : Wp E Q pc lv (.long x :: st) m := by
  intro p l e R s mi args below meth c D ca A b Z hA ad H locs ls h1 h2 h3 h4 h5 h6 h7
  have hx := hA.1
  have hb := hA.2.1
  refine lv_lstore hx hb hdg h7 (Nat.blt_eq.mp hi) rfl fun ls' hl' => ?_
  exact k p l e R s mi args below meth c D ca A b Z hA ad H locs ls' h1 h2 h3 (z_put_w h4 (z_ws_head h5)) (z_ws_tail h5) h6 (z_put_hasL hno hn2 hl')
theorem w_lstore_n {i : Fin 4} {x : Int64} (hdg : decode (ze_cc E) pc = .ok (.lstore_n i, 1)) (hi : Nat.blt ((i : Nat) + 1) (ze_nL E) = true) (hno : z_nol lv (i : Nat) = true) (hn2 : z_non lv ((i : Nat) + 1) = true) (k : Wp E Q (pc + 1) (z_put lv (i : Nat) (.long x)) st m) : Wp E Q pc lv (.long x :: st) m := by
  intro p l e R s mi args below meth c D ca A b Z hA ad H locs ls h1 h2 h3 h4 h5 h6 h7
  have hx := hA.1
  have hb := hA.2.1
  refine lv_lstore_n hx hb hdg rfl h7 (Nat.blt_eq.mp hi) rfl fun ls' hl' => ?_
  exact k p l e R s mi args below meth c D ca A b Z hA ad H locs ls' h1 h2 h3 (z_put_w h4 (z_ws_head h5)) (z_ws_tail h5) h6 (z_put_hasL hno hn2 hl')
theorem w_iinc {i : Nat} {n : Int} {x v : Int32} (hdg : decode (ze_cc E) pc = .ok (.iinc i n, 3)) (hl : z_get lv i = some (.int x)) (hv : x + Int32.ofInt n = v) (hi : Nat.blt i (ze_nL E) = true) (hno : z_nol lv i = true) (k : Wp E Q (pc + 3) (z_put lv i (.int v)) st m) : Wp E Q pc lv st m := by
  intro p l e R s mi args below meth c D ca A b Z hA ad H locs ls h1 h2 h3 h4 h5 h6 h7
  have hx := hA.1
  have hb := hA.2.1
  obtain ⟨kk, hkk⟩ := zl_pos (ad := ad) hl
  refine lv_iinc hx hb hdg h7 hkk hv (Nat.blt_eq.mp hi) rfl fun ls' hl' => ?_
  exact k p l e R s mi args below meth c D ca A b Z hA ad H locs ls' h1 h2 h3 (z_put_w (v := .int v) h4 trivial) h5 h6 (z_put_has (v := .int v) hno hl')
theorem w_iadd {x y : Int32} (hdg : decode (ze_cc E) pc = .ok (.iadd, 1)) (k : Wp E Q (pc + 1) lv (.int (x + y) :: st) m) : Wp E Q pc lv (.int y :: .int x :: st) m := by
  intro p l e R s mi args below meth c D ca A b Z hA ad H locs ls h1 h2 h3 h4 h5 h6 h7
  have hx := hA.1
  have hb := hA.2.1
  exact lv_iadd hx hb hdg (k p l e R s mi args below meth c D ca A b Z hA ad H locs ls h1 h2 h3 h4 (z_ws_cons trivial (z_ws_tail (z_ws_tail h5))) h6 h7)
theorem w_isub {x y : Int32} (hdg : decode (ze_cc E) pc = .ok (.isub, 1)) (k : Wp E Q (pc + 1) lv (.int (x - y) :: st) m) : Wp E Q pc lv (.int y :: .int x :: st) m := by
  intro p l e R s mi args below meth c D ca A b Z hA ad H locs ls h1 h2 h3 h4 h5 h6 h7
  have hx := hA.1
  have hb := hA.2.1
  exact lv_isub hx hb hdg (k p l e R s mi args below meth c D ca A b Z hA ad H locs ls h1 h2 h3 h4 (z_ws_cons trivial (z_ws_tail (z_ws_tail h5))) h6 h7)
theorem w_imul {x y : Int32} (hdg : decode (ze_cc E) pc = .ok (.imul, 1)) (k : Wp E Q (pc + 1) lv (.int (x * y) :: st) m) : Wp E Q pc lv (.int y :: .int x :: st) m := by
  intro p l e R s mi args below meth c D ca A b Z hA ad H locs ls h1 h2 h3 h4 h5 h6 h7
  have hx := hA.1
  have hb := hA.2.1
  exact lv_imul hx hb hdg (k p l e R s mi args below meth c D ca A b Z hA ad H locs ls h1 h2 h3 h4 (z_ws_cons trivial (z_ws_tail (z_ws_tail h5))) h6 h7)
theorem w_idiv {x y : Int32} (hdg : decode (ze_cc E) pc = .ok (.idiv, 1)) (hy : ¬ y = 0) (k : Wp E Q (pc + 1) lv (.int (x / y) :: st) m) : Wp E Q pc lv (.int y :: .int x :: st) m := by
  intro p l e R s mi args below meth c D ca A b Z hA ad H locs ls h1 h2 h3 h4 h5 h6 h7
  have hx := hA.1
  have hb := hA.2.1
  exact lv_idiv hx hb hdg hy (k p l e R s mi args below meth c D ca A b Z hA ad H locs ls h1 h2 h3 h4 (z_ws_cons trivial (z_ws_tail (z_ws_tail h5))) h6 h7)
theorem w_irem {x y : Int32} (hdg : decode (ze_cc E) pc = .ok (.irem, 1)) (hy : ¬ y = 0) (k : Wp E Q (pc + 1) lv (.int (x - x / y * y) :: st) m) : Wp E Q pc lv (.int y :: .int x :: st) m := by
  intro p l e R s mi args below meth c D ca A b Z hA ad H locs ls h1 h2 h3 h4 h5 h6 h7
  have hx := hA.1
  have hb := hA.2.1
  exact lv_irem hx hb hdg hy (k p l e R s mi args below meth c D ca A b Z hA ad H locs ls h1 h2 h3 h4 (z_ws_cons trivial (z_ws_tail (z_ws_tail h5))) h6 h7)
theorem w_ishr {x y : Int32} (hdg : decode (ze_cc E) pc = .ok (.ishr, 1)) (k : Wp E Q (pc + 1) lv (.int (x >>> (y &&& 31)) :: st) m) : Wp E Q pc lv (.int y :: .int x :: st) m := by
  intro p l e R s mi args below meth c D ca A b Z hA ad H locs ls h1 h2 h3 h4 h5 h6 h7
  have hx := hA.1
  have hb := hA.2.1
  exact lv_ishr hx hb hdg (k p l e R s mi args below meth c D ca A b Z hA ad H locs ls h1 h2 h3 h4 (z_ws_cons trivial (z_ws_tail (z_ws_tail h5))) h6 h7)
theorem w_iushr {x y : Int32} (hdg : decode (ze_cc E) pc = .ok (.iushr, 1)) (k : Wp E Q (pc + 1) lv (.int ((x.toUInt32 >>> (y.toUInt32 &&& Int32.toUInt32 31)).toInt32) :: st) m) : Wp E Q pc lv (.int y :: .int x :: st) m := by
  intro p l e R s mi args below meth c D ca A b Z hA ad H locs ls h1 h2 h3 h4 h5 h6 h7
  have hx := hA.1
  have hb := hA.2.1
  exact lv_iushr hx hb hdg rfl (k p l e R s mi args below meth c D ca A b Z hA ad H locs ls h1 h2 h3 h4 (z_ws_cons trivial (z_ws_tail (z_ws_tail h5))) h6 h7)
theorem w_iand {x y : Int32} (hdg : decode (ze_cc E) pc = .ok (.iand, 1)) (k : Wp E Q (pc + 1) lv (.int (x &&& y) :: st) m) : Wp E Q pc lv (.int y :: .int x :: st) m := by
  intro p l e R s mi args below meth c D ca A b Z hA ad H locs ls h1 h2 h3 h4 h5 h6 h7
  have hx := hA.1
  have hb := hA.2.1
  exact lv_iand hx hb hdg (k p l e R s mi args below meth c D ca A b Z hA ad H locs ls h1 h2 h3 h4 (z_ws_cons trivial (z_ws_tail (z_ws_tail h5))) h6 h7)
theorem w_land {x y : Int64} (hdg : decode (ze_cc E) pc = .ok (.land, 1)) (k : Wp E Q (pc + 1) lv (.long (x &&& y) :: st) m) : Wp E Q pc lv (.long y :: .long x :: st) m := by
  intro p l e R s mi args below meth c D ca A b Z hA ad H locs ls h1 h2 h3 h4 h5 h6 h7
  have hx := hA.1
  have hb := hA.2.1
  exact lv_land hx hb hdg (k p l e R s mi args below meth c D ca A b Z hA ad H locs ls h1 h2 h3 h4 (z_ws_cons trivial (z_ws_tail (z_ws_tail h5))) h6 h7)
theorem w_lor {x y : Int64} (hdg : decode (ze_cc E) pc = .ok (.lor, 1)) (k : Wp E Q (pc + 1) lv (.long (x ||| y) :: st) m) : Wp E Q pc lv (.long y :: .long x :: st) m := by
  intro p l e R s mi args below meth c D ca A b Z hA ad H locs ls h1 h2 h3 h4 h5 h6 h7
  have hx := hA.1
  have hb := hA.2.1
  exact lv_lor hx hb hdg (k p l e R s mi args below meth c D ca A b Z hA ad H locs ls h1 h2 h3 h4 (z_ws_cons trivial (z_ws_tail (z_ws_tail h5))) h6 h7)
theorem w_lxor {x y : Int64} (hdg : decode (ze_cc E) pc = .ok (.lxor, 1)) (k : Wp E Q (pc + 1) lv (.long (x ^^^ y) :: st) m) : Wp E Q pc lv (.long y :: .long x :: st) m := by
  intro p l e R s mi args below meth c D ca A b Z hA ad H locs ls h1 h2 h3 h4 h5 h6 h7
  have hx := hA.1
  have hb := hA.2.1
  exact lv_lxor hx hb hdg (k p l e R s mi args below meth c D ca A b Z hA ad H locs ls h1 h2 h3 h4 (z_ws_cons trivial (z_ws_tail (z_ws_tail h5))) h6 h7)
theorem w_lshl {x : Int64} {y : Int32} (hdg : decode (ze_cc E) pc = .ok (.lshl, 1)) (k : Wp E Q (pc + 1) lv (.long (x <<< (y.toInt64 &&& 63)) :: st) m) : Wp E Q pc lv (.int y :: .long x :: st) m := by
  intro p l e R s mi args below meth c D ca A b Z hA ad H locs ls h1 h2 h3 h4 h5 h6 h7
  have hx := hA.1
  have hb := hA.2.1
  exact lv_lshl hx hb hdg rfl (k p l e R s mi args below meth c D ca A b Z hA ad H locs ls h1 h2 h3 h4 (z_ws_cons trivial (z_ws_tail (z_ws_tail h5))) h6 h7)
theorem w_lushr {x : Int64} {y : Int32} (hdg : decode (ze_cc E) pc = .ok (.lushr, 1)) (k : Wp E Q (pc + 1) lv (.long ((x.toUInt64 >>> (y.toInt64.toUInt64 &&& Int64.toUInt64 63)).toInt64) :: st) m) : Wp E Q pc lv (.int y :: .long x :: st) m := by
  intro p l e R s mi args below meth c D ca A b Z hA ad H locs ls h1 h2 h3 h4 h5 h6 h7
  have hx := hA.1
  have hb := hA.2.1
  exact lv_lushr hx hb hdg rfl (k p l e R s mi args below meth c D ca A b Z hA ad H locs ls h1 h2 h3 h4 (z_ws_cons trivial (z_ws_tail (z_ws_tail h5))) h6 h7)
theorem w_lcmp {x y : Int64} (hdg : decode (ze_cc E) pc = .ok (.lcmp, 1)) (k : Wp E Q (pc + 1) lv (.int (lg_cmp x y) :: st) m) : Wp E Q pc lv (.long y :: .long x :: st) m := by
  intro p l e R s mi args below meth c D ca A b Z hA ad H locs ls h1 h2 h3 h4 h5 h6 h7
  have hx := hA.1
  have hb := hA.2.1
  exact W.lcmp hx hb hdg (k p l e R s mi args below meth c D ca A b Z hA ad H locs ls h1 h2 h3 h4 (z_ws_cons trivial (z_ws_tail (z_ws_tail h5))) h6 h7)
theorem w_ineg {x : Int32} (hdg : decode (ze_cc E) pc = .ok (.ineg, 1)) (k : Wp E Q (pc + 1) lv (.int (-x) :: st) m) : Wp E Q pc lv (.int x :: st) m := by
  intro p l e R s mi args below meth c D ca A b Z hA ad H locs ls h1 h2 h3 h4 h5 h6 h7
  have hx := hA.1
  have hb := hA.2.1
  exact lv_ineg hx hb hdg (k p l e R s mi args below meth c D ca A b Z hA ad H locs ls h1 h2 h3 h4 (z_ws_cons trivial (z_ws_tail h5)) h6 h7)
theorem w_dup {v : Value} (hdg : decode (ze_cc E) pc = .ok (.dup, 1)) (hv : v.category = 1) (k : Wp E Q (pc + 1) lv (v :: v :: st) m) : Wp E Q pc lv (v :: st) m := by
  intro p l e R s mi args below meth c D ca A b Z hA ad H locs ls h1 h2 h3 h4 h5 h6 h7
  have hx := hA.1
  have hb := hA.2.1
  exact lv_dup hx hb hdg (by rw [z_cat]; exact hv) (k p l e R s mi args below meth c D ca A b Z hA ad H locs ls h1 h2 h3 h4 (z_ws_cons (z_ws_head h5) h5) h6 h7)
theorem w_dup2 {v w : Value} (hdg : decode (ze_cc E) pc = .ok (.dup2, 1)) (hv : v.category = 1) (hw : w.category = 1) (k : Wp E Q (pc + 1) lv (v :: w :: v :: w :: st) m) : Wp E Q pc lv (v :: w :: st) m := by
  intro p l e R s mi args below meth c D ca A b Z hA ad H locs ls h1 h2 h3 h4 h5 h6 h7
  have hx := hA.1
  have hb := hA.2.1
  exact lv_dup2_11 hx hb hdg (by rw [z_cat]; exact hv) (by rw [z_cat]; exact hw) (k p l e R s mi args below meth c D ca A b Z hA ad H locs ls h1 h2 h3 h4 (z_ws_cons (z_ws_head h5) (z_ws_cons (z_ws_head (z_ws_tail h5)) h5)) h6 h7)
theorem w_pop {v : Value} (hdg : decode (ze_cc E) pc = .ok (.pop, 1)) (hv : v.category = 1) (k : Wp E Q (pc + 1) lv st m) : Wp E Q pc lv (v :: st) m := by
  intro p l e R s mi args below meth c D ca A b Z hA ad H locs ls h1 h2 h3 h4 h5 h6 h7
  have hx := hA.1
  have hb := hA.2.1
  exact lv_pop hx hb hdg (by rw [z_cat]; exact hv) (k p l e R s mi args below meth c D ca A b Z hA ad H locs ls h1 h2 h3 h4 (z_ws_tail h5) h6 h7)
theorem w_goto {off : Int} (tgt : Nat) (hdg : decode (ze_cc E) pc = .ok (.goto off, 3)) (ht : (pc : Int) + off = (tgt : Int)) (k : Wp E Q tgt lv st m) : Wp E Q pc lv st m := by
  intro p l e R s mi args below meth c D ca A b Z hA ad H locs ls h1 h2 h3 h4 h5 h6 h7
  have hx := hA.1
  have hb := hA.2.1
  exact lv_goto hx hb hdg ht (k p l e R s mi args below meth c D ca A b Z hA ad H locs ls h1 h2 h3 h4 h5 h6 h7)
theorem w_if_eq {x : Int32} {off : Int} (tgt : Nat) (hdg : decode (ze_cc E) pc = .ok (.ifCond .eq off, 3)) (ht : (pc : Int) + off = (tgt : Int)) (kt : x = 0 → Wp E Q tgt lv st m) (kf : ¬ x = 0 → Wp E Q (pc + 3) lv st m) : Wp E Q pc lv (.int x :: st) m := by
  intro p l e R s mi args below meth c D ca A b Z hA ad H locs ls h1 h2 h3 h4 h5 h6 h7
  have hx := hA.1
  have hb := hA.2.1
  exact lv_if_eq hx hb hdg ht (fun q => kt q p l e R s mi args below meth c D ca A b Z hA ad H locs ls h1 h2 h3 h4 (z_ws_tail h5) h6 h7) (fun q => kf q p l e R s mi args below meth c D ca A b Z hA ad H locs ls h1 h2 h3 h4 (z_ws_tail h5) h6 h7)
theorem w_icmp_eq {x y : Int32} {off : Int} (tgt : Nat) (hdg : decode (ze_cc E) pc = .ok (.if_icmp .eq off, 3)) (ht : (pc : Int) + off = (tgt : Int)) (kt : x = y → Wp E Q tgt lv st m) (kf : ¬ x = y → Wp E Q (pc + 3) lv st m) : Wp E Q pc lv (.int y :: .int x :: st) m := by
  intro p l e R s mi args below meth c D ca A b Z hA ad H locs ls h1 h2 h3 h4 h5 h6 h7
  have hx := hA.1
  have hb := hA.2.1
  exact lv_icmp_eq hx hb hdg ht (fun q => kt q p l e R s mi args below meth c D ca A b Z hA ad H locs ls h1 h2 h3 h4 (z_ws_tail (z_ws_tail h5)) h6 h7) (fun q => kf q p l e R s mi args below meth c D ca A b Z hA ad H locs ls h1 h2 h3 h4 (z_ws_tail (z_ws_tail h5)) h6 h7)
theorem w_if_ne {x : Int32} {off : Int} (tgt : Nat) (hdg : decode (ze_cc E) pc = .ok (.ifCond .ne off, 3)) (ht : (pc : Int) + off = (tgt : Int)) (kt : ¬ x = 0 → Wp E Q tgt lv st m) (kf : x = 0 → Wp E Q (pc + 3) lv st m) : Wp E Q pc lv (.int x :: st) m := by
  intro p l e R s mi args below meth c D ca A b Z hA ad H locs ls h1 h2 h3 h4 h5 h6 h7
  have hx := hA.1
  have hb := hA.2.1
  exact lv_if_ne hx hb hdg ht (fun q => kt q p l e R s mi args below meth c D ca A b Z hA ad H locs ls h1 h2 h3 h4 (z_ws_tail h5) h6 h7) (fun q => kf q p l e R s mi args below meth c D ca A b Z hA ad H locs ls h1 h2 h3 h4 (z_ws_tail h5) h6 h7)
theorem w_icmp_ne {x y : Int32} {off : Int} (tgt : Nat) (hdg : decode (ze_cc E) pc = .ok (.if_icmp .ne off, 3)) (ht : (pc : Int) + off = (tgt : Int)) (kt : ¬ x = y → Wp E Q tgt lv st m) (kf : x = y → Wp E Q (pc + 3) lv st m) : Wp E Q pc lv (.int y :: .int x :: st) m := by
  intro p l e R s mi args below meth c D ca A b Z hA ad H locs ls h1 h2 h3 h4 h5 h6 h7
  have hx := hA.1
  have hb := hA.2.1
  exact lv_icmp_ne hx hb hdg ht (fun q => kt q p l e R s mi args below meth c D ca A b Z hA ad H locs ls h1 h2 h3 h4 (z_ws_tail (z_ws_tail h5)) h6 h7) (fun q => kf q p l e R s mi args below meth c D ca A b Z hA ad H locs ls h1 h2 h3 h4 (z_ws_tail (z_ws_tail h5)) h6 h7)
theorem w_if_lt {x : Int32} {off : Int} (tgt : Nat) (hdg : decode (ze_cc E) pc = .ok (.ifCond .lt off, 3)) (ht : (pc : Int) + off = (tgt : Int)) (kt : x < 0 → Wp E Q tgt lv st m) (kf : ¬ x < 0 → Wp E Q (pc + 3) lv st m) : Wp E Q pc lv (.int x :: st) m := by
  intro p l e R s mi args below meth c D ca A b Z hA ad H locs ls h1 h2 h3 h4 h5 h6 h7
  have hx := hA.1
  have hb := hA.2.1
  exact lv_if_lt hx hb hdg ht (fun q => kt q p l e R s mi args below meth c D ca A b Z hA ad H locs ls h1 h2 h3 h4 (z_ws_tail h5) h6 h7) (fun q => kf q p l e R s mi args below meth c D ca A b Z hA ad H locs ls h1 h2 h3 h4 (z_ws_tail h5) h6 h7)
theorem w_icmp_lt {x y : Int32} {off : Int} (tgt : Nat) (hdg : decode (ze_cc E) pc = .ok (.if_icmp .lt off, 3)) (ht : (pc : Int) + off = (tgt : Int)) (kt : x < y → Wp E Q tgt lv st m) (kf : ¬ x < y → Wp E Q (pc + 3) lv st m) : Wp E Q pc lv (.int y :: .int x :: st) m := by
  intro p l e R s mi args below meth c D ca A b Z hA ad H locs ls h1 h2 h3 h4 h5 h6 h7
  have hx := hA.1
  have hb := hA.2.1
  exact lv_icmp_lt hx hb hdg ht (fun q => kt q p l e R s mi args below meth c D ca A b Z hA ad H locs ls h1 h2 h3 h4 (z_ws_tail (z_ws_tail h5)) h6 h7) (fun q => kf q p l e R s mi args below meth c D ca A b Z hA ad H locs ls h1 h2 h3 h4 (z_ws_tail (z_ws_tail h5)) h6 h7)
theorem w_if_ge {x : Int32} {off : Int} (tgt : Nat) (hdg : decode (ze_cc E) pc = .ok (.ifCond .ge off, 3)) (ht : (pc : Int) + off = (tgt : Int)) (kt : 0 ≤ x → Wp E Q tgt lv st m) (kf : ¬ 0 ≤ x → Wp E Q (pc + 3) lv st m) : Wp E Q pc lv (.int x :: st) m := by
  intro p l e R s mi args below meth c D ca A b Z hA ad H locs ls h1 h2 h3 h4 h5 h6 h7
  have hx := hA.1
  have hb := hA.2.1
  exact lv_if_ge hx hb hdg ht (fun q => kt q p l e R s mi args below meth c D ca A b Z hA ad H locs ls h1 h2 h3 h4 (z_ws_tail h5) h6 h7) (fun q => kf q p l e R s mi args below meth c D ca A b Z hA ad H locs ls h1 h2 h3 h4 (z_ws_tail h5) h6 h7)
theorem w_icmp_ge {x y : Int32} {off : Int} (tgt : Nat) (hdg : decode (ze_cc E) pc = .ok (.if_icmp .ge off, 3)) (ht : (pc : Int) + off = (tgt : Int)) (kt : y ≤ x → Wp E Q tgt lv st m) (kf : ¬ y ≤ x → Wp E Q (pc + 3) lv st m) : Wp E Q pc lv (.int y :: .int x :: st) m := by
  intro p l e R s mi args below meth c D ca A b Z hA ad H locs ls h1 h2 h3 h4 h5 h6 h7
  have hx := hA.1
  have hb := hA.2.1
  exact lv_icmp_ge hx hb hdg ht (fun q => kt q p l e R s mi args below meth c D ca A b Z hA ad H locs ls h1 h2 h3 h4 (z_ws_tail (z_ws_tail h5)) h6 h7) (fun q => kf q p l e R s mi args below meth c D ca A b Z hA ad H locs ls h1 h2 h3 h4 (z_ws_tail (z_ws_tail h5)) h6 h7)
theorem w_if_gt {x : Int32} {off : Int} (tgt : Nat) (hdg : decode (ze_cc E) pc = .ok (.ifCond .gt off, 3)) (ht : (pc : Int) + off = (tgt : Int)) (kt : 0 < x → Wp E Q tgt lv st m) (kf : ¬ 0 < x → Wp E Q (pc + 3) lv st m) : Wp E Q pc lv (.int x :: st) m := by
  intro p l e R s mi args below meth c D ca A b Z hA ad H locs ls h1 h2 h3 h4 h5 h6 h7
  have hx := hA.1
  have hb := hA.2.1
  exact lv_if_gt hx hb hdg ht (fun q => kt q p l e R s mi args below meth c D ca A b Z hA ad H locs ls h1 h2 h3 h4 (z_ws_tail h5) h6 h7) (fun q => kf q p l e R s mi args below meth c D ca A b Z hA ad H locs ls h1 h2 h3 h4 (z_ws_tail h5) h6 h7)
theorem w_icmp_gt {x y : Int32} {off : Int} (tgt : Nat) (hdg : decode (ze_cc E) pc = .ok (.if_icmp .gt off, 3)) (ht : (pc : Int) + off = (tgt : Int)) (kt : y < x → Wp E Q tgt lv st m) (kf : ¬ y < x → Wp E Q (pc + 3) lv st m) : Wp E Q pc lv (.int y :: .int x :: st) m := by
  intro p l e R s mi args below meth c D ca A b Z hA ad H locs ls h1 h2 h3 h4 h5 h6 h7
  have hx := hA.1
  have hb := hA.2.1
  exact lv_icmp_gt hx hb hdg ht (fun q => kt q p l e R s mi args below meth c D ca A b Z hA ad H locs ls h1 h2 h3 h4 (z_ws_tail (z_ws_tail h5)) h6 h7) (fun q => kf q p l e R s mi args below meth c D ca A b Z hA ad H locs ls h1 h2 h3 h4 (z_ws_tail (z_ws_tail h5)) h6 h7)
theorem w_if_le {x : Int32} {off : Int} (tgt : Nat) (hdg : decode (ze_cc E) pc = .ok (.ifCond .le off, 3)) (ht : (pc : Int) + off = (tgt : Int)) (kt : x ≤ 0 → Wp E Q tgt lv st m) (kf : ¬ x ≤ 0 → Wp E Q (pc + 3) lv st m) : Wp E Q pc lv (.int x :: st) m := by
  intro p l e R s mi args below meth c D ca A b Z hA ad H locs ls h1 h2 h3 h4 h5 h6 h7
  have hx := hA.1
  have hb := hA.2.1
  exact lv_if_le hx hb hdg ht (fun q => kt q p l e R s mi args below meth c D ca A b Z hA ad H locs ls h1 h2 h3 h4 (z_ws_tail h5) h6 h7) (fun q => kf q p l e R s mi args below meth c D ca A b Z hA ad H locs ls h1 h2 h3 h4 (z_ws_tail h5) h6 h7)
theorem w_icmp_le {x y : Int32} {off : Int} (tgt : Nat) (hdg : decode (ze_cc E) pc = .ok (.if_icmp .le off, 3)) (ht : (pc : Int) + off = (tgt : Int)) (kt : x ≤ y → Wp E Q tgt lv st m) (kf : ¬ x ≤ y → Wp E Q (pc + 3) lv st m) : Wp E Q pc lv (.int y :: .int x :: st) m := by
  intro p l e R s mi args below meth c D ca A b Z hA ad H locs ls h1 h2 h3 h4 h5 h6 h7
  have hx := hA.1
  have hb := hA.2.1
  exact lv_icmp_le hx hb hdg ht (fun q => kt q p l e R s mi args below meth c D ca A b Z hA ad H locs ls h1 h2 h3 h4 (z_ws_tail (z_ws_tail h5)) h6 h7) (fun q => kf q p l e R s mi args below meth c D ca A b Z hA ad H locs ls h1 h2 h3 h4 (z_ws_tail (z_ws_tail h5)) h6 h7)
theorem w_ifnull_r {x : Nat} {off : Int} (hdg : decode (ze_cc E) pc = .ok (.ifnull off, 3)) (k : Wp E Q (pc + 3) lv st m) : Wp E Q pc lv (.ref x :: st) m := by
  intro p l e R s mi args below meth c D ca A b Z hA ad H locs ls h1 h2 h3 h4 h5 h6 h7
  have hx := hA.1
  have hb := hA.2.1
  exact lv_ifnull hx hb hdg (k p l e R s mi args below meth c D ca A b Z hA ad H locs ls h1 h2 h3 h4 (z_ws_tail h5) h6 h7)
theorem w_ifnull_n {off : Int} (tgt : Nat) (hdg : decode (ze_cc E) pc = .ok (.ifnull off, 3)) (ht : (pc : Int) + off = (tgt : Int)) (k : Wp E Q tgt lv st m) : Wp E Q pc lv (.null :: st) m := by
  intro p l e R s mi args below meth c D ca A b Z hA ad H locs ls h1 h2 h3 h4 h5 h6 h7
  have hx := hA.1
  have hb := hA.2.1
  exact lv_ifnullN hx hb hdg ht (k p l e R s mi args below meth c D ca A b Z hA ad H locs ls h1 h2 h3 h4 (z_ws_tail h5) h6 h7)
theorem w_ifnonnull_r {x : Nat} {off : Int} (tgt : Nat) (hdg : decode (ze_cc E) pc = .ok (.ifnonnull off, 3)) (ht : (pc : Int) + off = (tgt : Int)) (k : Wp E Q tgt lv st m) : Wp E Q pc lv (.ref x :: st) m := by
  intro p l e R s mi args below meth c D ca A b Z hA ad H locs ls h1 h2 h3 h4 h5 h6 h7
  have hx := hA.1
  have hb := hA.2.1
  exact lv_ifnonnull hx hb hdg ht (k p l e R s mi args below meth c D ca A b Z hA ad H locs ls h1 h2 h3 h4 (z_ws_tail h5) h6 h7)
theorem w_ifnonnull_n {off : Int} (hdg : decode (ze_cc E) pc = .ok (.ifnonnull off, 3)) (k : Wp E Q (pc + 3) lv st m) : Wp E Q pc lv (.null :: st) m := by
  intro p l e R s mi args below meth c D ca A b Z hA ad H locs ls h1 h2 h3 h4 h5 h6 h7
  have hx := hA.1
  have hb := hA.2.1
  exact lv_ifnonnullN hx hb hdg (k p l e R s mi args below meth c D ca A b Z hA ad H locs ls h1 h2 h3 h4 (z_ws_tail h5) h6 h7)
theorem w_getI {idx id ci kf : Nat} (hdg : decode (ze_cc E) pc = .ok (.getfield idx, 3)) (hf : zm_fl (ze_own E) idx ci kf) (hn : id < m.2.2.2) (hs : zm_sh id = .inl ci) (ht : zm_T ci kf = .int ∨ zm_T ci kf = .boolean) (k : Wp E Q (pc + 3) lv (.int (m.1 id kf) :: st) m) : Wp E Q pc lv (.ref id :: st) m := by
  intro p l e R s mi args below meth c D ca A b Z hA ad H locs ls h1 h2 h3 h4 h5 h6 h7
  have hx := hA.1
  have hb := hA.2.1
  refine va_get hx hb hA.2.2.2.2.1 (zm_lays hf.1) hA.2.2.2.1 hA.2.2.2.2.2.2.2.2.1 h2.1 id (zm_W_obj ad ca m hn hs) (zm_cl hf.1) kf hf.2.1 (hA.2.2.2.2.1 _ hf.2.2) (fun _ q => q) (v := .int (m.1 id kf)) (zm_fI ad m id hf.2.1 ht) hdg ?_
  exact k p l e R s mi args below meth c D ca A b Z hA ad H locs ls h1 h2 h3 h4 (z_ws_cons trivial (z_ws_tail h5)) h6 h7
theorem w_getR {idx id ci kf j : Nat} (hdg : decode (ze_cc E) pc = .ok (.getfield idx, 3)) (hf : zm_fl (ze_own E) idx ci kf) (hn : id < m.2.2.2) (hs : zm_sh id = .inl ci) (ht : zm_rt (zm_T ci kf) = true) (hj : m.2.2.1 id kf = some j) (k : Wp E Q (pc + 3) lv (.ref j :: st) m) : Wp E Q pc lv (.ref id :: st) m := by
  intro p l e R s mi args below meth c D ca A b Z hA ad H locs ls h1 h2 h3 h4 h5 h6 h7
  have hx := hA.1
  have hb := hA.2.1
  refine va_get hx hb hA.2.2.2.2.1 (zm_lays hf.1) hA.2.2.2.1 hA.2.2.2.2.2.2.2.2.1 h2.1 id (zm_W_obj ad ca m hn hs) (zm_cl hf.1) kf hf.2.1 (hA.2.2.2.2.1 _ hf.2.2) (fun _ q => q) (v := .ref (ad j)) (zm_fR ad m id hf.2.1 ht hj) hdg ?_
  exact k p l e R s mi args below meth c D ca A b Z hA ad H locs ls h1 h2 h3 h4 (z_ws_cons (Or.inl (h2.2.2.1 _ _ _ hj)) (z_ws_tail h5)) h6 h7
theorem w_putI {idx id ci kf : Nat} {x : Int32} (hdg : decode (ze_cc E) pc = .ok (.putfield idx, 3)) (hf : zm_fl (ze_own E) idx ci kf) (hn : id < m.2.2.2) (hs : zm_sh id = .inl ci) (hfin : (zm_F ci kf).2.2.2 = false) (ht : zm_T ci kf = .int ∨ (zm_T ci kf = .boolean ∧ (x = 0 ∨ x = 1))) (k : Wp E Q (pc + 3) lv st (z_uI m id kf x)) : Wp E Q pc lv (.int x :: .ref id :: st) m := by
  intro p l e R s mi args below meth c D ca A b Z hA ad H locs ls h1 h2 h3 h4 h5 h6 h7
  have hx := hA.1
  have hb := hA.2.1
  obtain ⟨n1, n2⟩ := zm_nI ht
  refine va_put hx hb hA.2.2.2.2.1 (zm_lays hf.1) (zm_T ci) (zm_tyok hf.1) (zm_nm hf.1) hA.2.2.2.1 hA.2.2.2.2.2.2.2.2.1 h2.1 h2.2.1 h3 id (zm_W_obj ad ca m hn hs) (zm_cl hf.1) kf hf.2.1 (hA.2.2.2.2.1 _ hf.2.2) (fun _ q => q) hfin (zm_tyok hf.1 kf hf.2.1) n1 n2 (by simp; exact hf.2.1) hdg fun H1 locs1 q1 q2 q3 => ?_
  rw [show z_c ad (.int x) = .int x from rfl, zm_setI ad ca hn hs hf.2.1 (ht.imp (fun q => q) And.left)] at q1 q2
  exact k p l e R s mi args below meth c D ca A b Z hA ad H1 locs1 ls h1 ⟨q1, q2, h2.2.2⟩ q3 h4 (z_ws_tail (z_ws_tail h5)) h6 h7
theorem w_putFI {idx id ci kf : Nat} {x : Int32} (hdg : decode (ze_cc E) pc = .ok (.putfield idx, 3)) (hf : zm_fl (ze_own E) idx ci kf) (hn : id < m.2.2.2) (hs : zm_sh id = .inl ci) (hfin : (zm_F ci kf).2.2.2 = true) (hi : ze_ini E = true) (ho : (zm_F ci kf).1 = ze_own E) (ht : zm_T ci kf = .int) (k : Wp E Q (pc + 3) lv st (z_uI m id kf x)) : Wp E Q pc lv (.int x :: .ref id :: st) m := by
  intro p l e R s mi args below meth c D ca A b Z hA ad H locs ls h1 h2 h3 h4 h5 h6 h7
  have hx := hA.1
  have hb := hA.2.1
  obtain ⟨n1, n2⟩ := zm_nI (x := x) (Or.inl ht)
  refine va_putF hx hb hA.2.2.2.2.1 (zm_lays hf.1) (zm_T ci) (zm_tyok hf.1) (zm_nm hf.1) hA.2.2.2.1 hA.2.2.2.2.2.2.2.2.1 h2.1 h2.2.1 h3 id (zm_W_obj ad ca m hn hs) (zm_cl hf.1) kf hf.2.1 (hA.2.2.2.2.1 _ hf.2.2) (fun _ q => q) hfin (hA.2.2.2.2.2.2.2.2.2.2.2.1 hi) ho (zm_tyok hf.1 kf hf.2.1) n1 n2 (by simp; exact hf.2.1) hdg fun H1 locs1 q1 q2 q3 => ?_
  rw [show z_c ad (.int x) = .int x from rfl, zm_setI ad ca hn hs hf.2.1 (Or.inl ht)] at q1 q2
  exact k p l e R s mi args below meth c D ca A b Z hA ad H1 locs1 ls h1 ⟨q1, q2, h2.2.2⟩ q3 h4 (z_ws_tail (z_ws_tail h5)) h6 h7
theorem w_putFR {idx id ci kf j : Nat} (hdg : decode (ze_cc E) pc = .ok (.putfield idx, 3)) (hf : zm_fl (ze_own E) idx ci kf) (hn : id < m.2.2.2) (hs : zm_sh id = .inl ci) (hfin : (zm_F ci kf).2.2.2 = true) (hi : ze_ini E = true) (ho : (zm_F ci kf).1 = ze_own E) (ht : zm_rt (zm_T ci kf) = true) (hj : j < m.2.2.2) (k : Wp E Q (pc + 3) lv st (z_uR m id kf j)) : Wp E Q pc lv (.ref j :: .ref id :: st) m := by
  intro p l e R s mi args below meth c D ca A b Z hA ad H locs ls h1 h2 h3 h4 h5 h6 h7
  have hx := hA.1
  have hb := hA.2.1
  obtain ⟨n1, n2⟩ := zm_nR (ad j) ht
  refine va_putF hx hb hA.2.2.2.2.1 (zm_lays hf.1) (zm_T ci) (zm_tyok hf.1) (zm_nm hf.1) hA.2.2.2.1 hA.2.2.2.2.2.2.2.2.1 h2.1 h2.2.1 h3 id (zm_W_obj ad ca m hn hs) (zm_cl hf.1) kf hf.2.1 (hA.2.2.2.2.1 _ hf.2.2) (fun _ q => q) hfin (hA.2.2.2.2.2.2.2.2.2.2.2.1 hi) ho (zm_tyok hf.1 kf hf.2.1) n1 n2 (by simp; exact hf.2.1) hdg fun H1 locs1 q1 q2 q3 => ?_
  rw [show z_c ad (.ref j) = .ref (ad j) from rfl, zm_setR ad ca hn hs hf.2.1 ht] at q1 q2
  exact k p l e R s mi args below meth c D ca A b Z hA ad H1 locs1 ls h1 ⟨q1, q2, zm_wf_uR h2.2.2 hj⟩ q3 h4 (z_ws_tail (z_ws_tail h5)) h6 h7
theorem w_iald {id n : Nat} {i : Int32} (hdg : decode (ze_cc E) pc = .ok (.iaload, 1)) (hn : id < m.2.2.2) (hs : zm_sh id = .inr (.int, n)) (hi : vp_in i n) (k : Wp E Q (pc + 1) lv (.int (m.1 id i.toNatClampNeg) :: st) m) : Wp E Q pc lv (.int i :: .ref id :: st) m := by
  intro p l e R s mi args below meth c D ca A b Z hA ad H locs ls h1 h2 h3 h4 h5 h6 h7
  have hx := hA.1
  have hb := hA.2.1
  refine va_iald hx hb hA.2.2.2.2.2.2.2.2.1 h2.1 id 0 (zm_W_arr ad ca m hn hs) rfl hi hdg ?_
  exact k p l e R s mi args below meth c D ca A b Z hA ad H locs ls h1 h2 h3 h4 (z_ws_cons trivial (z_ws_tail (z_ws_tail h5))) h6 h7
theorem w_zald {id n : Nat} {i : Int32} (hdg : decode (ze_cc E) pc = .ok (.baload, 1)) (hn : id < m.2.2.2) (hs : zm_sh id = .inr (.boolean, n)) (hi : vp_in i n) (k : Wp E Q (pc + 1) lv (.int (m.1 id i.toNatClampNeg) :: st) m) : Wp E Q pc lv (.int i :: .ref id :: st) m := by
  intro p l e R s mi args below meth c D ca A b Z hA ad H locs ls h1 h2 h3 h4 h5 h6 h7
  have hx := hA.1
  have hb := hA.2.1
  refine va_zald hx hb hA.2.2.2.2.2.2.2.2.1 h2.1 id 1 (zm_W_arr ad ca m hn hs) rfl hi hdg ?_
  exact k p l e R s mi args below meth c D ca A b Z hA ad H locs ls h1 h2 h3 h4 (z_ws_cons trivial (z_ws_tail (z_ws_tail h5))) h6 h7
theorem w_lald {id n : Nat} {i : Int32} (hdg : decode (ze_cc E) pc = .ok (.laload, 1)) (hn : id < m.2.2.2) (hs : zm_sh id = .inr (.long, n)) (hi : vp_in i n) (k : Wp E Q (pc + 1) lv (.long (m.2.1 id i.toNatClampNeg) :: st) m) : Wp E Q pc lv (.int i :: .ref id :: st) m := by
  intro p l e R s mi args below meth c D ca A b Z hA ad H locs ls h1 h2 h3 h4 h5 h6 h7
  have hx := hA.1
  have hb := hA.2.1
  refine va_lald hx hb hA.2.2.2.2.2.2.2.2.1 h2.1 id 2 (zm_W_arr ad ca m hn hs) rfl hi hdg ?_
  exact k p l e R s mi args below meth c D ca A b Z hA ad H locs ls h1 h2 h3 h4 (z_ws_cons trivial (z_ws_tail (z_ws_tail h5))) h6 h7
theorem w_aald {id n j : Nat} {i : Int32} (hdg : decode (ze_cc E) pc = .ok (.aaload, 1)) (hn : id < m.2.2.2) (hs : zm_sh id = .inr (.object "TornReeds$Bit", n)) (hi : vp_in i n) (hj : m.2.2.1 id i.toNatClampNeg = some j) (k : Wp E Q (pc + 1) lv (.ref j :: st) m) : Wp E Q pc lv (.int i :: .ref id :: st) m := by
  intro p l e R s mi args below meth c D ca A b Z hA ad H locs ls h1 h2 h3 h4 h5 h6 h7
  have hx := hA.1
  have hb := hA.2.1
  refine va_aldq hx hb hA.2.2.2.2.2.2.2.2.1 h2.1 id 3 (zm_W_arr ad ca m hn hs) rfl hi hdg ?_
  rw [hj]
  exact k p l e R s mi args below meth c D ca A b Z hA ad H locs ls h1 h2 h3 h4 (z_ws_cons (Or.inl (h2.2.2.1 _ _ _ hj)) (z_ws_tail (z_ws_tail h5))) h6 h7
theorem w_gald {id n j : Nat} {i : Int32} (hdg : decode (ze_cc E) pc = .ok (.aaload, 1)) (hn : id < m.2.2.2) (hs : zm_sh id = .inr (.array .long, n)) (hi : vp_in i n) (hj : m.2.2.1 id i.toNatClampNeg = some j) (k : Wp E Q (pc + 1) lv (.ref j :: st) m) : Wp E Q pc lv (.int i :: .ref id :: st) m := by
  intro p l e R s mi args below meth c D ca A b Z hA ad H locs ls h1 h2 h3 h4 h5 h6 h7
  have hx := hA.1
  have hb := hA.2.1
  have ha := zm_W_arr ad ca m hn hs
  have hlt : i.toNatClampNeg < n := Nat.not_le.mp fun q => hi (Or.inr q)
  refine W.aald (v := .ref (ad j)) (ty := .array .long) hx hb (h2.1 id _ ha) ((hA.2.2.2.2.2.2.2.2.1.2 4 _ rfl).1 n (fun q => va_rf ((m.2.2.1 id q).map ad))) rfl (fun q => by cases q) (by show ¬ (i < 0 ∨ (arrV _ _ _).slots.size ≤ _); rw [arrV_size]; exact hi) (by show (arrV (ca (.array .long)) n (fun q => va_rf ((m.2.2.1 id q).map ad))).slots[_]? = _; rw [arrV_read _ _ hlt]; simp only [hj]; rfl) rfl rfl hdg ?_
  exact k p l e R s mi args below meth c D ca A b Z hA ad H locs ls h1 h2 h3 h4 (z_ws_cons (Or.inl (h2.2.2.1 _ _ _ hj)) (z_ws_tail (z_ws_tail h5))) h6 h7
theorem w_iast {id n : Nat} {i x : Int32} (hdg : decode (ze_cc E) pc = .ok (.iastore, 1)) (hn : id < m.2.2.2) (hs : zm_sh id = .inr (.int, n)) (hi : vp_in i n) (k : Wp E Q (pc + 1) lv st (z_uI m id i.toNatClampNeg x)) : Wp E Q pc lv (.int x :: .int i :: .ref id :: st) m := by
  intro p l e R s mi args below meth c D ca A b Z hA ad H locs ls h1 h2 h3 h4 h5 h6 h7
  have hx := hA.1
  have hb := hA.2.1
  refine va_iast hx hb hA.2.2.2.2.2.2.2.2.1 h2.1 h2.2.1 h3 id 0 (zm_W_arr ad ca m hn hs) rfl hi hdg fun H1 locs1 q1 q2 q3 => ?_
  rw [zm_setAI ad ca hn hs] at q1 q2
  exact k p l e R s mi args below meth c D ca A b Z hA ad H1 locs1 ls h1 ⟨q1, q2, h2.2.2⟩ q3 h4 (z_ws_tail (z_ws_tail (z_ws_tail h5))) h6 h7
theorem w_zast {id n : Nat} {i x : Int32} (hdg : decode (ze_cc E) pc = .ok (.bastore, 1)) (hn : id < m.2.2.2) (hs : zm_sh id = .inr (.boolean, n)) (hi : vp_in i n) (h01 : x = 0 ∨ x = 1) (k : Wp E Q (pc + 1) lv st (z_uI m id i.toNatClampNeg x)) : Wp E Q pc lv (.int x :: .int i :: .ref id :: st) m := by
  intro p l e R s mi args below meth c D ca A b Z hA ad H locs ls h1 h2 h3 h4 h5 h6 h7
  have hx := hA.1
  have hb := hA.2.1
  refine va_zast hx hb hA.2.2.2.2.2.2.2.2.1 h2.1 h2.2.1 h3 id 1 (zm_W_arr ad ca m hn hs) rfl hi hdg fun H1 locs1 q1 q2 q3 => ?_
  rw [zm_narZ h01, zm_setAZ ad ca hn hs] at q1 q2
  exact k p l e R s mi args below meth c D ca A b Z hA ad H1 locs1 ls h1 ⟨q1, q2, h2.2.2⟩ q3 h4 (z_ws_tail (z_ws_tail (z_ws_tail h5))) h6 h7
theorem w_last {id n : Nat} {i : Int32} {x : Int64} (hdg : decode (ze_cc E) pc = .ok (.lastore, 1)) (hn : id < m.2.2.2) (hs : zm_sh id = .inr (.long, n)) (hi : vp_in i n) (k : Wp E Q (pc + 1) lv st (z_uJ m id i.toNatClampNeg x)) : Wp E Q pc lv (.long x :: .int i :: .ref id :: st) m := by
  intro p l e R s mi args below meth c D ca A b Z hA ad H locs ls h1 h2 h3 h4 h5 h6 h7
  have hx := hA.1
  have hb := hA.2.1
  refine va_last hx hb hA.2.2.2.2.2.2.2.2.1 h2.1 h2.2.1 h3 id 2 (zm_W_arr ad ca m hn hs) rfl hi hdg fun H1 locs1 q1 q2 q3 => ?_
  rw [zm_setAJ ad ca hn hs] at q1 q2
  exact k p l e R s mi args below meth c D ca A b Z hA ad H1 locs1 ls h1 ⟨q1, q2, h2.2.2⟩ q3 h4 (z_ws_tail (z_ws_tail (z_ws_tail h5))) h6 h7
theorem w_aast {id n j : Nat} {i : Int32} (hdg : decode (ze_cc E) pc = .ok (.aastore, 1)) (hn : id < m.2.2.2) (hs : zm_sh id = .inr (.object "TornReeds$Bit", n)) (hi : vp_in i n) (hj : j < m.2.2.2) (hsj : zm_sh j = .inl 0) (k : Wp E Q (pc + 1) lv st (z_uR m id i.toNatClampNeg j)) : Wp E Q pc lv (.ref j :: .int i :: .ref id :: st) m := by
  intro p l e R s mi args below meth c D ca A b Z hA ad H locs ls h1 h2 h3 h4 h5 h6 h7
  have hx := hA.1
  have hb := hA.2.1
  refine va_astq (r := (RX0, TX0, 16)) hx hb hA.2.2.2.2.2.2.2.2.1 h2.1 h2.2.1 h3 id 3 j 0 (zm_W_arr ad ca m hn hs) rfl (zm_W_obj ad ca m hj hsj) rfl hi hdg fun H1 locs1 q1 q2 q3 => ?_
  rw [zm_setAR ad ca hn hs] at q1 q2
  exact k p l e R s mi args below meth c D ca A b Z hA ad H1 locs1 ls h1 ⟨q1, q2, zm_wf_uR h2.2.2 hj⟩ q3 h4 (z_ws_tail (z_ws_tail (z_ws_tail h5))) h6 h7
theorem w_alen0 {id n : Nat} {v : Int32} (hdg : decode (ze_cc E) pc = .ok (.arraylength, 1)) (hn : id < m.2.2.2) (hs : zm_sh id = .inr (.int, n)) (hv : Int32.ofNat n = v) (k : Wp E Q (pc + 1) lv (.int v :: st) m) : Wp E Q pc lv (.ref id :: st) m := by
  intro p l e R s mi args below meth c D ca A b Z hA ad H locs ls h1 h2 h3 h4 h5 h6 h7
  have hx := hA.1
  have hb := hA.2.1
  refine va_alen hx hb hA.2.2.2.2.2.2.2.2.1 h2.1 id 0 (zm_W_arr ad ca m hn hs) rfl hv hdg ?_
  exact k p l e R s mi args below meth c D ca A b Z hA ad H locs ls h1 h2 h3 h4 (z_ws_cons trivial (z_ws_tail h5)) h6 h7
theorem w_alen1 {id n : Nat} {v : Int32} (hdg : decode (ze_cc E) pc = .ok (.arraylength, 1)) (hn : id < m.2.2.2) (hs : zm_sh id = .inr (.boolean, n)) (hv : Int32.ofNat n = v) (k : Wp E Q (pc + 1) lv (.int v :: st) m) : Wp E Q pc lv (.ref id :: st) m := by
  intro p l e R s mi args below meth c D ca A b Z hA ad H locs ls h1 h2 h3 h4 h5 h6 h7
  have hx := hA.1
  have hb := hA.2.1
  refine va_alen hx hb hA.2.2.2.2.2.2.2.2.1 h2.1 id 1 (zm_W_arr ad ca m hn hs) rfl hv hdg ?_
  exact k p l e R s mi args below meth c D ca A b Z hA ad H locs ls h1 h2 h3 h4 (z_ws_cons trivial (z_ws_tail h5)) h6 h7
theorem w_alen2 {id n : Nat} {v : Int32} (hdg : decode (ze_cc E) pc = .ok (.arraylength, 1)) (hn : id < m.2.2.2) (hs : zm_sh id = .inr (.long, n)) (hv : Int32.ofNat n = v) (k : Wp E Q (pc + 1) lv (.int v :: st) m) : Wp E Q pc lv (.ref id :: st) m := by
  intro p l e R s mi args below meth c D ca A b Z hA ad H locs ls h1 h2 h3 h4 h5 h6 h7
  have hx := hA.1
  have hb := hA.2.1
  refine va_alen hx hb hA.2.2.2.2.2.2.2.2.1 h2.1 id 2 (zm_W_arr ad ca m hn hs) rfl hv hdg ?_
  exact k p l e R s mi args below meth c D ca A b Z hA ad H locs ls h1 h2 h3 h4 (z_ws_cons trivial (z_ws_tail h5)) h6 h7
theorem w_sld {L : Nat} {xs : Nat → Int32} {i : Int32} (hdg : decode (ze_cc E) pc = .ok (.iaload, 1)) (hs : ze_scr E = some (L, xs)) (hi : vp_in i L) (k : Wp E Q (pc + 1) lv (.int (xs i.toNatClampNeg) :: st) m) : Wp E Q pc lv (.int i :: .ref 1000 :: st) m := by
  intro p l e R s mi args below meth c D ca A b Z hA ad H locs ls h1 h2 h3 h4 h5 h6 h7
  have hx := hA.1
  have hb := hA.2.1
  obtain ⟨x1, x2, x3⟩ := hA.2.2.2.2.2.2.2.2.2.2.2.2.1 _ hs
  rw [← h1 1000 (Or.inr rfl)] at x1 x2 x3
  refine va_sld hx hb x1 x2 x3 h3 hi hdg ?_
  exact k p l e R s mi args below meth c D ca A b Z hA ad H locs ls h1 h2 h3 h4 (z_ws_cons trivial (z_ws_tail (z_ws_tail h5))) h6 h7
theorem w_slen {L : Nat} {xs : Nat → Int32} (hdg : decode (ze_cc E) pc = .ok (.arraylength, 1)) (hs : ze_scr E = some (L, xs)) (k : Wp E Q (pc + 1) lv (.int (nI L) :: st) m) : Wp E Q pc lv (.ref 1000 :: st) m := by
  intro p l e R s mi args below meth c D ca A b Z hA ad H locs ls h1 h2 h3 h4 h5 h6 h7
  have hx := hA.1
  have hb := hA.2.1
  obtain ⟨x1, x2, x3⟩ := hA.2.2.2.2.2.2.2.2.2.2.2.2.1 _ hs
  rw [← h1 1000 (Or.inr rfl)] at x1 x2 x3
  refine va_slen hx hb x1 x2 x3 h3 hdg ?_
  exact k p l e R s mi args below meth c D ca A b Z hA ad H locs ls h1 h2 h3 h4 (z_ws_cons trivial (z_ws_tail h5)) h6 h7
end WI
end
section
/-! a callee: code, locals' count, answer's type, height, cells made -/
abbrev zK : Type := ByteArray × Nat × Option FieldType × Nat × Nat
def zk_h (K : zK) : Nat := K.2.2.2.1
def zk_mc (K : zK) : Nat := K.2.2.2.2
def zk_ms (K : zK) (n : Nat) : Nat := zm_ss (n + zk_mc K) - zm_ss n
def zk_rm (K : zK) (n : Nat) : Room := { frames := zk_h K, cells := zk_mc K, slots := zk_ms K n, locals := 40 * zk_h K }
def zk_ws (y : MethodName) (K : zK) : List Cond := Cond.code y K.1 K.2.1 K.2.2.1 :: zm_g
def zm_U (D : va_G) (ca : FieldType → Nat) (A : Nat → Prop) (ad : Nat → Nat) (m : zM) (U : State) : Prop := zm_R D ca A ad m U.heap ∧ va_K D vwCl (zm_t ca) U ∧ (∀ w ∈ zm_nest, va_Nw w U) ∧ va_AO "TornReeds$Bit" U ∧ zm_AL U
def zm_Qc (D : va_G) (ca : FieldType → Nat) (A : Nat → Prop) (ad : Nat → Nat) (n mc : Nat) (F : Option Value → zM → Prop) : Array Value → State → Outcome → State → Prop := fun _ st oc t =>
  (∃ (r : Option Value) (m' : zM) (ad' : Nat → Nat), oc = .returned (r.map (z_c ad')) ∧ F r m' ∧ z_eq n ad ad' ∧ m'.2.2.2 = n + mc ∧ (∀ v, r = some v → z_w m'.2.2.2 v) ∧ zm_R D ca A ad' m' t.heap) ∧ va_F A st t
/-- CALLING y with these arguments in this memory comes back with what F says -/
def Cl (y : MethodName) (K : zK) (as : List Value) (m : zM) (F : Option Value → zM → Prop) : Prop :=
  ∀ (l : Launch) (D : va_G) (ca : FieldType → Nat) (A : Nat → Prop) (ad : Nat → Nat) (sz : Nat), (∀ q, sz ≤ q → A q) → z_ws m.2.2.2 as →
    Met l y (zk_ws y K) (zk_rm K m.2.2.2) (va_Pc (z_s ad as) (fun U => U.heap.size = sz ∧ zm_U D ca A ad m U)) (zm_Qc D ca A ad m.2.2.2 (zk_mc K) F) (zk_mc K) (zk_ms K m.2.2.2) A
theorem zm_good (y : MethodName) (K : zK) (hc : Cond.code y K.1 K.2.1 K.2.2.1 ∈ zm_g) : GoodIn zm_g (zk_ws y K) := by
  intro w hw
  rcases List.mem_cons.mp hw with rfl | hw
  · exact ⟨hc, good_of_word (List.mem_filter.mp hc).2⟩
  · exact ⟨hw, good_of_word (List.mem_filter.mp hw).2⟩
theorem zm_nest_nest : ∀ w ∈ zm_nest, ∃ a i x h, w = .methodLinkNest a i x h := by
  intro w hw
  simp only [zm_nest, List.mem_cons, List.not_mem_nil, or_false] at hw
  rcases hw with rfl | rfl | rfl | rfl | rfl | rfl | rfl | rfl | rfl | rfl | rfl <;> exact ⟨_, _, _, _, rfl⟩
theorem zm_U_blind (D : va_G) (ca : FieldType → Nat) (A : Nat → Prop) (ad : Nat → Nat) (m : zM) (sz : Nat) (av : List Value) : FrameBlind (va_Pc av (fun U => U.heap.size = sz ∧ zm_U D ca A ad m U)) := by
  intro a U g mk q
  obtain ⟨q0, q1, qR, qK, qN, qA, qL⟩ := q
  refine ⟨q0, q1, qR, va_K.moved (u := U) (U := U.calling g mk a) (Vm.Alike.refl U.vm) qK, fun w hw => ?_, va_AO.moved (u := U) (U := U.calling g mk a) (Vm.Alike.refl U.vm) qA, zm_AL.moved (u := U) (U := U.calling g mk a) (Vm.Alike.refl U.vm) qL⟩
  obtain ⟨a1, i1, x1, b1, rfl⟩ := zm_nest_nest w hw
  exact va_Nw.same rfl (rfl : U.vm = (U.calling g mk a).vm) (qN _ hw)
section WC
variable {E : zE} {Q : Option Value → zM → Prop} {pc : Nat} {lv : List (Nat × Value)} {st : List Value} {m : zM}
theorem zm_U_at {p : Program} {l : Launch} {e : Env} {R : Room} {s : State} {mi : MethodId} {args : Array Value} {below : List Frame} {meth : Method} {c : Code} {D : va_G} {ca : FieldType → Nat} {A : Nat → Prop} {b : Nat → Nat} {Z : State → Prop} {ad : Nat → Nat} {H : Heap} (hA : zm_A E Q p l e R s mi args below meth c D ca A b Z) (h2 : zm_R D ca A ad m H) {U : State} (hU : U.heap = H) (hW : s.WarmedH U.vm) : zm_U D ca A ad m U := by
  obtain ⟨a1, a2, a3, a4, a5, a6, a7, a8, a9, a10, a11, a12, a13, a14⟩ := hA
  refine ⟨by rw [hU]; exact h2, va_K.moved hW.alike a9, fun w hw => ?_, va_AO.moved hW.alike a7, zm_AL.moved hW.alike a8⟩
  have h := a6 w hw
  obtain ⟨a1, i1, x1, b1, rfl⟩ := zm_nest_nest w hw
  exact va_Nw.warmM hW h
theorem zm_after {p : Program} {l : Launch} {e : Env} {R : Room} {s : State} {mi : MethodId} {args : Array Value} {below : List Frame} {meth : Method} {c : Code} {D : va_G} {ca : FieldType → Nat} {A : Nat → Prop} {b : Nat → Nat} {Z : State → Prop} {ad : Nat → Nat} {H : Heap} {locs : List Loc} {ls : Array Slot} {st0 : List Value} {K : zK} {av : Array Value} {F : Option Value → zM → Prop}
    (hA : zm_A E Q p l e R s mi args below meth c D ca A b Z) (h1 : z_eq (ze_n0 E) b ad) (h2 : zm_R D ca A ad m H) (h3 : va_S A s.heap H locs) (h4 : z_wl m.2.2.2 lv) (h5 : z_ws m.2.2.2 st) (h6 : ze_n0 E ≤ m.2.2.2) (h7 : lv_has ls (ze_nL E) (z_l ad lv))
    (hr : va_Run p l e R s mi args below meth c H locs (zm_cs E m) (zm_sl E m) (zk_mc K) (zk_ms K m.2.2.2) (F0 mi pc ls st0) (z_s ad st) (zm_Qc D ca A ad m.2.2.2 (zk_mc K) F av) A)
    (k : ∀ r m', F r m' → Wp E Q (pc + 3) lv (r.toList ++ st) m') : W p l e R s mi args below meth c H locs (zm_cs E m) (zm_sl E m) Z (F0 mi pc ls st0) := by
  intro T hT X
  obtain ⟨v, st₀, t, T', L, h0, X', hL, e1, e2, ⟨⟨r, m', ad', hv, hF, heq, hn', hw, hR'⟩, hz, hk⟩, stp⟩ := hr T hT X
  have hvr : v = r.map (z_c ad') := by injection hv
  subst hvr
  rw [h0] at hz hk
  have hmn : m.2.2.2 ≤ m'.2.2.2 := by omega
  have hS : va_S A s.heap T'.heap (locs ++ L) := ⟨Nat.le_trans h3.1 (by rw [e1]; exact hz), fun q g1 g2 => by rw [e1, hk q (Nat.lt_of_lt_of_le g1 h3.1) g2]; exact h3.2.1 q g1 g2, fun q hq => by
      rcases List.mem_append.mp hq with g | g
      · exact h3.2.2 q g
      · exact hL q g⟩
  have hcs : zm_cs E m' = zm_cs E m + zk_mc K := by unfold zm_cs; omega
  have hsl : zm_sl E m' = zm_sl E m + zk_ms K m.2.2.2 := by
    unfold zm_sl zk_ms
    rw [hn']
    have g1 := zm_ss_le h6
    have g2 := zm_ss_mono m.2.2.2 (zk_mc K)
    omega
  have hst : z_s ad' (r.toList ++ st) = (r.map (z_c ad')).toList ++ z_s ad st := by
    unfold z_s
    rw [List.map_append]
    congr 1
    · cases r <;> rfl
    · exact z_s_eq heq h5
  obtain ⟨t2, a1, b1⟩ := k r m' hF p l e R s mi args below meth c D ca A b Z hA ad' T'.heap (locs ++ L) ls (fun q hq => (heq q (hq.imp (fun g => Nat.lt_of_lt_of_le g h6) id)).trans (h1 q hq)) (by rw [e1]; exact hR') hS (fun q hq => z_w_mono hmn (h4 q hq))
    (fun x hx => by
      rcases List.mem_append.mp hx with g | g
      · exact hw x (by cases r with
          | none => cases g
          | some y => rw [List.mem_singleton.mp g])
      · exact z_w_mono hmn (h5 x g)) (Nat.le_trans h6 hmn) (by rw [z_l_eq heq h4]; exact h7) T' rfl (by rw [hcs, hsl]; exact X')
  refine ⟨t2, stp t2 ?_, b1⟩
  rw [hst] at a1
  exact a1
/-- what is known of a method of objects -/
def zm_yv (y : MethodName) (K : zK) (np : Nat) : Prop := (y.cls ≠ "java/lang/invoke/MethodHandle" ∧ y.cls ≠ "java/lang/invoke/VarHandle" ∧ (parseMethodDescriptor y.desc).map (fun d => d.parameters.length) = some np) ∧ Cond.initialized y.cls ∈ zm_g ∧ Cond.code y K.1 K.2.1 K.2.2.1 ∈ zm_g ∧ K.2.1 ≤ 21 ∧ Cond.instanceMethod y ∈ zm_g ∧ Cond.selects y.cls y y ∈ zm_g
def zm_ys (y : MethodName) (K : zK) (np : Nat) : Prop := (y.cls ≠ "java/lang/invoke/MethodHandle" ∧ y.cls ≠ "java/lang/invoke/VarHandle" ∧ (parseMethodDescriptor y.desc).map (fun d => d.parameters.length) = some np) ∧ Cond.initialized y.cls ∈ zm_g ∧ Cond.code y K.1 K.2.1 K.2.2.1 ∈ zm_g ∧ K.2.1 ≤ 21 ∧ Cond.static y ∈ zm_g
def zm_yi (y : MethodName) (K : zK) (np : Nat) : Prop := (y.cls ≠ "java/lang/invoke/MethodHandle" ∧ y.cls ≠ "java/lang/invoke/VarHandle" ∧ (parseMethodDescriptor y.desc).map (fun d => d.parameters.length) = some np) ∧ Cond.initialized y.cls ∈ zm_g ∧ Cond.code y K.1 K.2.1 K.2.2.1 ∈ zm_g ∧ K.2.1 ≤ 21 ∧ Cond.instanceMethod y ∈ zm_g ∧ y.name = "<init>" ∧ K.2.2.1 = none
theorem zm_room {p : Program} {l : Launch} {e : Env} {R : Room} {s : State} {mi : MethodId} {args : Array Value} {below : List Frame} {meth : Method} {c : Code} {D : va_G} {ca : FieldType → Nat} {A : Nat → Prop} {b : Nat → Nat} {Z : State → Prop} (hA : zm_A E Q p l e R s mi args below meth c D ca A b Z) {K : zK} (hh : zk_h K + 1 ≤ ze_h E) (hL : K.2.1 ≤ 21) : (zk_rm K m.2.2.2).frames + 1 ≤ R.frames ∧ 8 + (K.2.1 + 11) + (zk_rm K m.2.2.2).locals ≤ R.locals := by
  obtain ⟨a1, a2, a3, a4, a5, a6, a7, a8, a9, a10, ⟨r1, r2, r3, r4⟩, a12⟩ := hA
  refine ⟨Nat.le_trans hh r1, ?_⟩
  show 8 + (K.2.1 + 11) + 40 * zk_h K ≤ R.locals
  omega
theorem zm_fit {p : Program} {l : Launch} {e : Env} {R : Room} {s : State} {mi : MethodId} {args : Array Value} {below : List Frame} {meth : Method} {c : Code} {D : va_G} {ca : FieldType → Nat} {A : Nat → Prop} {b : Nat → Nat} {Z : State → Prop} (hA : zm_A E Q p l e R s mi args below meth c D ca A b Z) {K : zK} (h6 : ze_n0 E ≤ m.2.2.2) (hn : m.2.2.2 + zk_mc K ≤ ze_n0 E + ze_mc E) : zm_cs E m + zk_mc K ≤ R.cells ∧ zm_sl E m + zk_ms K m.2.2.2 ≤ R.slots := by
  obtain ⟨a1, a2, a3, a4, a5, a6, a7, a8, a9, a10, ⟨r1, r2, r3, r4⟩, a12⟩ := hA
  unfold zm_cs zm_sl zk_ms
  have g1 := zm_ss_le h6
  have g2 := zm_ss_mono m.2.2.2 (zk_mc K)
  have g3 := zm_ss_le hn
  omega
theorem zm_stk {ad : Nat → Nat} {rest : List Value} (hw : (rest.map fun v => v.category).sum ≤ 8) : ((z_s ad rest).map fun v => v.category).sum ≤ 8 := by
  unfold z_s
  rw [List.map_map]
  have : ((fun v : Value => v.category) ∘ z_c ad) = fun v => v.category := funext fun v => z_cat ad v
  rw [this]
  exact hw
theorem w_callV {idx id ci np : Nat} {y : MethodName} {K : zK} {as st0 : List Value} (hdg : decode (ze_cc E) pc = .ok (.invokevirtual idx, 3)) (hl : Cond.methodLink (ze_own E) idx y ∈ zm_g) (hy : zm_yv y K np) (hh : zk_h K + 1 ≤ ze_h E) (hlen : as.length = np) (hst : st0 = as.reverse ++ .ref id :: st) (hid : id < m.2.2.2) (hs : zm_sh id = .inl ci) (hci : ci < 13) (hc : zm_C ci = y.cls) (hw : (st.map fun v => v.category).sum ≤ 8) (hn : m.2.2.2 + zk_mc K ≤ ze_n0 E + ze_mc E)
    (k : Cl y K (.ref id :: as) m (fun r m' => Wp E Q (pc + 3) lv (r.toList ++ st) m')) : Wp E Q pc lv st0 m := by
  subst hst
  intro p l e R s mi args below meth c D ca A b Z hA ad H locs ls h1 h2 h3 h4 h5 h6 h7
  have hx := hA.1
  have hb := hA.2.1
  have hml := hA.2.2.1
  have hown := hA.2.2.2.1
  have hts := hA.2.2.2.2.1
  obtain ⟨hd, hini, hcode, hL, hin, hsel⟩ := hy
  have hM := k l D ca A ad H.size (fun q hq => hA.2.2.2.2.2.2.2.2.2.1 q (Nat.le_trans h3.1 hq)) (fun v hv => h5 v (by
    rcases List.mem_cons.mp hv with g | g
    · exact List.mem_append_right _ (g ▸ List.mem_cons_self)
    · exact List.mem_append_left _ (List.mem_reverse.mpr g)))
  have cw : CallW R s args (ze_own E) y.cls idx y K.1 K.2.1 K.2.2.1 (zk_ws y K) (zk_rm K m.2.2.2) (zk_mc K) (zk_ms K m.2.2.2) np := ⟨callB_of np hts (zm_good y K hcode) rfl rfl rfl (hts _ hini) (hts _ hl) hd (zm_room hA hh hL), hts _ hin, hts _ hsel⟩
  have hp : PreV s H y.cls (ad id) (va_Pc (z_s ad (.ref id :: as)) (fun U => U.heap.size = H.size ∧ zm_U D ca A ad m U)) (z_s ad as) := ⟨zm_U_blind D ca A ad m H.size _, by
    have q := va_recv hA.2.2.2.2.2.2.2.2.1 h2.1 (zm_cl hci) (zm_W_obj ad ca m hid hs)
    rw [← hc]
    exact q, fun U hU hW => ⟨rfl, by rw [hU], zm_U_at hA h2 hU hW⟩⟩
  have hr := va_runV (below := below) (e := e) (meth := meth) (locs := locs) (cells := zm_cs E m) (slots := zm_sl E m) (g := F0 mi pc ls (z_s ad (as.reverse ++ .ref id :: st))) (rest := z_s ad st) ⟨hx, hb, hml, hown, hts⟩ hM cw hp rfl (by unfold z_s; rw [List.length_map]; exact hlen) h7.1 (by show z_s ad _ = _; simp [z_s, z_c]) (lv_room (zm_stk hw)) hdg (zm_fit hA h6 hn)
  exact zm_after hA h1 h2 h3 h4 (fun v hv => h5 v (List.mem_append_right _ (List.mem_cons_of_mem _ hv))) h6 h7 hr (fun r m' h => h)
theorem w_callS {idx np : Nat} {y : MethodName} {K : zK} {as st0 : List Value} (hdg : decode (ze_cc E) pc = .ok (.invokestatic idx, 3)) (hl : Cond.methodLink (ze_own E) idx y ∈ zm_g) (hy : zm_ys y K np) (hh : zk_h K + 1 ≤ ze_h E) (hlen : as.length = np) (hst : st0 = as.reverse ++ st) (hw : (st.map fun v => v.category).sum ≤ 8) (hn : m.2.2.2 + zk_mc K ≤ ze_n0 E + ze_mc E)
    (k : Cl y K as m (fun r m' => Wp E Q (pc + 3) lv (r.toList ++ st) m')) : Wp E Q pc lv st0 m := by
  subst hst
  intro p l e R s mi args below meth c D ca A b Z hA ad H locs ls h1 h2 h3 h4 h5 h6 h7
  have hx := hA.1
  have hb := hA.2.1
  have hml := hA.2.2.1
  have hown := hA.2.2.2.1
  have hts := hA.2.2.2.2.1
  obtain ⟨hd, hini, hcode, hL, hstt⟩ := hy
  have hM := k l D ca A ad H.size (fun q hq => hA.2.2.2.2.2.2.2.2.2.1 q (Nat.le_trans h3.1 hq)) (fun v hv => h5 v (List.mem_append_left _ (List.mem_reverse.mpr hv)))
  have cw : CallB R s args (ze_own E) idx y K.1 K.2.1 K.2.2.1 (zk_ws y K) (zk_rm K m.2.2.2) (zk_mc K) (zk_ms K m.2.2.2) np ∧ (Cond.static y).before args s = true := ⟨callB_of np hts (zm_good y K hcode) rfl rfl rfl (hts _ hini) (hts _ hl) hd (zm_room hA hh hL), hts _ hstt⟩
  have hp : PreS s H (va_Pc (z_s ad as) (fun U => U.heap.size = H.size ∧ zm_U D ca A ad m U)) (z_s ad as) := ⟨zm_U_blind D ca A ad m H.size _, fun U hU hW => ⟨rfl, by rw [hU], zm_U_at hA h2 hU hW⟩⟩
  have hr := va_runS (below := below) (e := e) (meth := meth) (locs := locs) (cells := zm_cs E m) (slots := zm_sl E m) (g := F0 mi pc ls (z_s ad (as.reverse ++ st))) (rest := z_s ad st) ⟨hx, hb, hml, hown, hts⟩ hM cw hp rfl (by unfold z_s; rw [List.length_map]; exact hlen) h7.1 (by show z_s ad _ = _; simp [z_s]) (lv_room (zm_stk hw)) hdg (zm_fit hA h6 hn)
  exact zm_after hA h1 h2 h3 h4 (fun v hv => h5 v (List.mem_append_right _ hv)) h6 h7 hr (fun r m' h => h)
theorem w_callSN {idx np : Nat} {y : MethodName} {K : zK} {as st0 : List Value} {host : String} (hdg : decode (ze_cc E) pc = .ok (.invokestatic idx, 3)) (hl : Cond.methodLinkNest (ze_own E) idx y host ∈ zm_nest) (hy : zm_ys y K np) (hh : zk_h K + 1 ≤ ze_h E) (hlen : as.length = np) (hst : st0 = as.reverse ++ st) (hw : (st.map fun v => v.category).sum ≤ 8) (hn : m.2.2.2 + zk_mc K ≤ ze_n0 E + ze_mc E)
    (k : Cl y K as m (fun r m' => Wp E Q (pc + 3) lv (r.toList ++ st) m')) : Wp E Q pc lv st0 m := by
  subst hst
  intro p l e R s mi args below meth c D ca A b Z hA ad H locs ls h1 h2 h3 h4 h5 h6 h7
  have hx := hA.1
  have hb := hA.2.1
  have hml := hA.2.2.1
  have hown := hA.2.2.2.1
  have hts := hA.2.2.2.2.1
  obtain ⟨hd, hini, hcode, hL, hstt⟩ := hy
  have hM := k l D ca A ad H.size (fun q hq => hA.2.2.2.2.2.2.2.2.2.1 q (Nat.le_trans h3.1 hq)) (fun v hv => h5 v (List.mem_append_left _ (List.mem_reverse.mpr hv)))
  have cw : va_CN R s args (ze_own E) idx y host K.1 K.2.1 K.2.2.1 (zk_ws y K) (zk_rm K m.2.2.2) (zk_mc K) (zk_ms K m.2.2.2) np ∧ (Cond.static y).before args s = true ∧ True := ⟨va_cnB np hts (zm_good y K hcode) rfl rfl rfl (hA.2.2.2.2.2.1 _ hl) (hts _ hini) hd (zm_room hA hh hL), hts _ hstt, trivial⟩
  have hp : PreS s H (va_Pc (z_s ad as) (fun U => U.heap.size = H.size ∧ zm_U D ca A ad m U)) (z_s ad as) := ⟨zm_U_blind D ca A ad m H.size _, fun U hU hW => ⟨rfl, by rw [hU], zm_U_at hA h2 hU hW⟩⟩
  have hr := va_runSN (below := below) (e := e) (meth := meth) (locs := locs) (cells := zm_cs E m) (slots := zm_sl E m) (g := F0 mi pc ls (z_s ad (as.reverse ++ st))) (rest := z_s ad st) ⟨hx, hb, hml, hown, hts⟩ hM cw hp rfl (by unfold z_s; rw [List.length_map]; exact hlen) h7.1 (by show z_s ad _ = _; simp [z_s]) (lv_room (zm_stk hw)) hdg (zm_fit hA h6 hn)
  exact zm_after hA h1 h2 h3 h4 (fun v hv => h5 v (List.mem_append_right _ hv)) h6 h7 hr (fun r m' h => h)
theorem w_callI {idx id np : Nat} {y : MethodName} {K : zK} {as st0 : List Value} (hdg : decode (ze_cc E) pc = .ok (.invokespecial idx, 3)) (hl : Cond.methodLink (ze_own E) idx y ∈ zm_g) (hy : zm_yi y K np) (hh : zk_h K + 1 ≤ ze_h E) (hlen : as.length = np) (hst : st0 = as.reverse ++ .ref id :: st) (hw : (st.map fun v => v.category).sum ≤ 8) (hn : m.2.2.2 + zk_mc K ≤ ze_n0 E + ze_mc E)
    (k : Cl y K (.ref id :: as) m (fun r m' => Wp E Q (pc + 3) lv (r.toList ++ st) m')) : Wp E Q pc lv st0 m := by
  subst hst
  intro p l e R s mi args below meth c D ca A b Z hA ad H locs ls h1 h2 h3 h4 h5 h6 h7
  have hx := hA.1
  have hb := hA.2.1
  have hml := hA.2.2.1
  have hown := hA.2.2.2.1
  have hts := hA.2.2.2.2.1
  obtain ⟨hd, hini, hcode, hL, hin, hnm, hret⟩ := hy
  have hM := k l D ca A ad H.size (fun q hq => hA.2.2.2.2.2.2.2.2.2.1 q (Nat.le_trans h3.1 hq)) (fun v hv => h5 v (by
    rcases List.mem_cons.mp hv with g | g
    · exact List.mem_append_right _ (g ▸ List.mem_cons_self)
    · exact List.mem_append_left _ (List.mem_reverse.mpr g)))
  have cw : CallB R s args (ze_own E) idx y K.1 K.2.1 none (zk_ws y K) (zk_rm K m.2.2.2) (zk_mc K) (zk_ms K m.2.2.2) np ∧ y.name = "<init>" ∧ (Cond.instanceMethod y).before args s = true := ⟨hret ▸ callB_of np hts (zm_good y K hcode) rfl rfl rfl (hts _ hini) (hts _ hl) hd (zm_room hA hh hL), hnm, hts _ hin⟩
  have hp : PreS s H (va_Pc (z_s ad (.ref id :: as)) (fun U => U.heap.size = H.size ∧ zm_U D ca A ad m U)) (.ref (ad id) :: z_s ad as) := ⟨zm_U_blind D ca A ad m H.size _, fun U hU hW => ⟨rfl, by rw [hU], zm_U_at hA h2 hU hW⟩⟩
  have hr := va_runI (below := below) (e := e) (meth := meth) (locs := locs) (cells := zm_cs E m) (slots := zm_sl E m) (g := F0 mi pc ls (z_s ad (as.reverse ++ .ref id :: st))) (rest := z_s ad st) ⟨hx, hb, hml, hown, hts⟩ hM cw hp rfl (by unfold z_s; rw [List.length_map]; exact hlen) h7.1 (by show z_s ad _ = _; simp [z_s, z_c]) (lv_room (zm_stk hw)) hdg (zm_fit hA h6 hn)
  exact zm_after hA h1 h2 h3 h4 (fun v hv => h5 v (List.mem_append_right _ (List.mem_cons_of_mem _ hv))) h6 h7 hr (fun r m' h => h)
theorem w_callIN {idx id np : Nat} {y : MethodName} {K : zK} {as st0 : List Value} {host : String} (hdg : decode (ze_cc E) pc = .ok (.invokespecial idx, 3)) (hl : Cond.methodLinkNest (ze_own E) idx y host ∈ zm_nest) (hy : zm_yi y K np) (hh : zk_h K + 1 ≤ ze_h E) (hlen : as.length = np) (hst : st0 = as.reverse ++ .ref id :: st) (hw : (st.map fun v => v.category).sum ≤ 8) (hn : m.2.2.2 + zk_mc K ≤ ze_n0 E + ze_mc E)
    (k : Cl y K (.ref id :: as) m (fun r m' => Wp E Q (pc + 3) lv (r.toList ++ st) m')) : Wp E Q pc lv st0 m := by
  subst hst
  intro p l e R s mi args below meth c D ca A b Z hA ad H locs ls h1 h2 h3 h4 h5 h6 h7
  have hx := hA.1
  have hb := hA.2.1
  have hml := hA.2.2.1
  have hown := hA.2.2.2.1
  have hts := hA.2.2.2.2.1
  obtain ⟨hd, hini, hcode, hL, hin, hnm, hret⟩ := hy
  have hM := k l D ca A ad H.size (fun q hq => hA.2.2.2.2.2.2.2.2.2.1 q (Nat.le_trans h3.1 hq)) (fun v hv => h5 v (by
    rcases List.mem_cons.mp hv with g | g
    · exact List.mem_append_right _ (g ▸ List.mem_cons_self)
    · exact List.mem_append_left _ (List.mem_reverse.mpr g)))
  have cw : va_CN R s args (ze_own E) idx y host K.1 K.2.1 none (zk_ws y K) (zk_rm K m.2.2.2) (zk_mc K) (zk_ms K m.2.2.2) np ∧ y.name = "<init>" ∧ (Cond.instanceMethod y).before args s = true := ⟨hret ▸ va_cnB np hts (zm_good y K hcode) rfl rfl rfl (hA.2.2.2.2.2.1 _ hl) (hts _ hini) hd (zm_room hA hh hL), hnm, hts _ hin⟩
  have hp : PreS s H (va_Pc (z_s ad (.ref id :: as)) (fun U => U.heap.size = H.size ∧ zm_U D ca A ad m U)) (.ref (ad id) :: z_s ad as) := ⟨zm_U_blind D ca A ad m H.size _, fun U hU hW => ⟨rfl, by rw [hU], zm_U_at hA h2 hU hW⟩⟩
  have hr := va_runIN (below := below) (e := e) (meth := meth) (locs := locs) (cells := zm_cs E m) (slots := zm_sl E m) (g := F0 mi pc ls (z_s ad (as.reverse ++ .ref id :: st))) (rest := z_s ad st) ⟨hx, hb, hml, hown, hts⟩ hM cw hp rfl (by unfold z_s; rw [List.length_map]; exact hlen) h7.1 (by show z_s ad _ = _; simp [z_s, z_c]) (lv_room (zm_stk hw)) hdg (zm_fit hA h6 hn)
  exact zm_after hA h1 h2 h3 h4 (fun v hv => h5 v (List.mem_append_right _ (List.mem_cons_of_mem _ hv))) h6 h7 hr (fun r m' h => h)
end WC
end
section
/-! a method's contract out of its walk -/
def zk_E (K : zK) (own : String) (n0 : Nat) (ini : Bool) : zE := (K.1, own, K.2.1, K.2.2.1, zk_h K, n0, zk_mc K, ini, none)
theorem z_args (ad : Nat → Nat) : ∀ (i : Nat) (as : List Value), lv_args i (z_s ad as) = z_l ad (lv_args i as)
  | _, [] => rfl
  | i, v :: as => by
    show (i, z_c ad v) :: lv_args (if (z_c ad v).category = 2 then i + 2 else i + 1) (z_s ad as) = (i, z_c ad v) :: z_l ad (lv_args (if v.category = 2 then i + 2 else i + 1) as)
    rw [z_cat, z_args ad _ as]
theorem z_args_w {n : Nat} : ∀ {i : Nat} {as : List Value}, z_ws n as → z_wl n (lv_args i as)
  | _, [], _ => fun q hq => by cases hq
  | i, v :: as, h => fun q hq => by
    rcases List.mem_cons.mp hq with g | g
    · subst g
      exact h v List.mem_cons_self
    · exact z_args_w (z_ws_tail h) q g
theorem z_sl_len (ad : Nat → Nat) (as : List Value) : (lg_sl (z_s ad as)).length = (lg_sl as).length := by
  induction as with
  | nil => rfl
  | cons v as ih =>
    unfold lg_sl z_s at ih ⊢
    simp only [List.map_cons, List.flatMap_cons, List.length_append, z_cat] at ih ⊢
    rw [ih]
    by_cases h : v.category = 2 <;> simp [h]
theorem cl_of {y : MethodName} {K : zK} {as : List Value} {m : zM} {F : Option Value → zM → Prop} (ini : Bool) (hini : ini = true → y.name = "<init>") (hpl : plainName y.cls = true) (hh : 1 ≤ zk_h K) (hlen : (lg_sl as).length ≤ K.2.1) (hret : ∀ t, K.2.2.1 = some t → t = .int ∨ t = .boolean ∨ ∃ C, t = .object C) (k : Wp (zk_E K y.cls m.2.2.2 ini) F 0 (lv_args 0 as) [] m) : Cl y K as m F := by
  intro l D ca A ad sz hAq hws
  refine Met.ofW (cc := K.1) (maxL := K.2.1) (ret := K.2.2.1) hpl rfl ?_
  intro p e s mi args below meth c s₁ B hml hv
  obtain ⟨hargs, hsz, hR, hK, hN, hAO, hAL⟩ := hv
  subst hargs
  have hx := B.exec
  have hb := B.bytes
  have hr := B.returns
  have hts0 := atoms_spec (ws := zk_ws y K) B.pre
  have hts : ∀ w ∈ zm_g, w.before (z_s ad as).toArray s = true := fun w hw => hts0 w (List.mem_cons_of_mem _ hw)
  have hown : s.vm.findClass y.cls = some mi.cls := findClass_of_methodNamed B.named
  have hlocks := B.notSynchronized
  have hnm : meth.name = y.name := (name_of_methodNamed B.named B.method).1
  subst hsz
  have hl := lv_entry (z_s ad as) (n := K.2.1) (by rw [z_sl_len]; exact hlen)
  rw [lg_entry_eq]
  generalize (lg_sl (z_s ad as) ++ List.replicate (K.2.1 - (lg_sl (z_s ad as)).length) Slot.unset).toArray = ls at hl ⊢
  rw [z_args] at hl
  have e1 : zm_cs (zk_E K y.cls m.2.2.2 ini) m = 0 := Nat.sub_self _
  have e2 : zm_sl (zk_E K y.cls m.2.2.2 ini) m = 0 := Nat.sub_self _
  have hact : zm_A (zk_E K y.cls m.2.2.2 ini) F p l e (headSpec (zk_ws y K) (zk_rm K m.2.2.2)).room s mi (z_s ad as).toArray below meth c D ca A ad (MQ below (zm_Qc D ca A ad m.2.2.2 (zk_mc K) F) (z_s ad as).toArray s (zk_mc K) (zk_ms K m.2.2.2) A) := by
    refine ⟨hx, hb, hml, hown, hts, hN, hAO, hAL, hK, hAq, ⟨Nat.le_refl _, Nat.le_refl _, Nat.le_refl _, Nat.le_refl _⟩, fun hi => hnm.trans (hini hi), (fun q hq => by cases hq), ?_⟩
    intro r m' ad' H locs pc ls' hok hdg hb2 hR' hS' hw hn hF
    have c1 : zm_cs (zk_E K y.cls m.2.2.2 ini) m' = zk_mc K := by show m'.2.2.2 - m.2.2.2 = _; rw [hn]; show m.2.2.2 + zk_mc K - m.2.2.2 = _; omega
    have c2 : zm_sl (zk_E K y.cls m.2.2.2 ini) m' = zk_ms K m.2.2.2 := by show zm_ss m'.2.2.2 - zm_ss m.2.2.2 = _; rw [hn]; rfl
    rw [c1, c2]
    have hq : ∀ t : State, t.heap = H → s.WarmedH t.vm → zm_Qc D ca A ad m.2.2.2 (zk_mc K) F (z_s ad as).toArray s (.returned (r.map (z_c ad'))) t := fun t ht _ => ⟨⟨r, m', ad', rfl, hF, hb2, hn, hw, by rw [ht]; exact hR'⟩, hS'.F ht⟩
    cases hrt : K.2.2.1 with
    | none =>
      have hrt' : ze_ret (zk_E K y.cls m.2.2.2 ini) = none := hrt
      rw [hrt'] at hok
      cases r with
      | none => exact W.vret hx hb (hr.trans hrt) hq (fun q hq => hS'.2.2 q hq) hdg hlocks
      | some v => exact False.elim (by simp [z_ok] at hok)
    | some t =>
      have hrt' : ze_ret (zk_E K y.cls m.2.2.2 ini) = some t := hrt
      rw [hrt'] at hok
      cases r with
      | none => exact False.elim (by cases t <;> simp [z_ok] at hok)
      | some v =>
        rcases hret t hrt with rfl | rfl | ⟨C, rfl⟩
        · cases v with
          | int x => exact W.iret hx hb (hr.trans hrt) hq (fun q hq => hS'.2.2 q hq) hdg hlocks
          | _ => exact False.elim (by simp [z_ok] at hok)
        · cases v with
          | int x => exact W.zret hx hb (hr.trans hrt) (zm_nI (Or.inr ⟨rfl, hok⟩)).1 hq (fun q hq => hS'.2.2 q hq) hdg hlocks
          | _ => exact False.elim (by simp [z_ok] at hok)
        · cases v with
          | ref x => exact W.aret hx hb (hr.trans hrt) (Or.inl ⟨C, rfl⟩) (Or.inr ⟨_, rfl⟩) hq (fun q hq => hS'.2.2 q hq) hdg hlocks
          | null => exact W.aret hx hb (hr.trans hrt) (Or.inl ⟨C, rfl⟩) (Or.inl rfl) hq (fun q hq => hS'.2.2 q hq) hdg hlocks
          | _ => exact False.elim (by simp [z_ok] at hok)
  have := k p l e _ s mi _ below meth c D ca A ad _ hact ad s.heap [] ls (fun _ _ => rfl) hR va_S.rf (z_args_w hws) (fun v hv => by cases hv) (Nat.le_refl _) hl
  rw [e1, e2] at this
  exact this
end
section
/-! making cells -/
def z_nx {α : Type} (f : Nat → Nat → α) (n : Nat) (v : α) : Nat → Nat → α := fun i j => if i = n then v else f i j
def z_new (m : zM) : zM := (z_nx m.1 m.2.2.2 0, z_nx m.2.1 m.2.2.2 0, z_nx m.2.2.1 m.2.2.2 none, m.2.2.2 + 1)
theorem z_nx_ne {α : Type} {f : Nat → Nat → α} {n i : Nat} {v : α} (h : i ≠ n) : z_nx f n v i = f i := funext fun j => if_neg h
theorem z_nx_eq {α : Type} {f : Nat → Nat → α} {n : Nat} {v : α} (j : Nat) : z_nx f n v n j = v := if_pos rfl
theorem zm_E_ad {ad ad' : Nat → Nat} {ca : FieldType → Nat} {m : zM} {id : Nat} (h : ∀ k j, m.2.2.1 id k = some j → ad' j = ad j) : zm_E ad' ca m id = zm_E ad ca m id := by
  have key : ∀ k, (m.2.2.1 id k).map ad' = (m.2.2.1 id k).map ad := fun k => by
    cases e : m.2.2.1 id k with
    | none => rfl
    | some j => exact congrArg some (h k j e)
  unfold zm_E
  cases zm_sh id with
  | inl ci =>
    simp only
    congr 2
    apply List.map_congr_left
    intro k _
    unfold zm_f
    rw [key]
  | inr q =>
    simp only
    congr 2
    unfold zm_a
    simp only [key]
def z_ad (ad : Nat → Nat) (n q : Nat) : Nat → Nat := fun k => if k = n then q else ad k
theorem zm_push {ad : Nat → Nat} {ca : FieldType → Nat} {m : zM} {q : Nat} {e : va_E} (hwf : zm_wf m) (he : zm_E (z_ad ad m.2.2.2 q) ca (z_new m) m.2.2.2 = e) : zm_W ad ca m ++ [(q, e)] = zm_W (z_ad ad m.2.2.2 q) ca (z_new m) := by
  unfold zm_W
  show _ = List.map _ (List.range (m.2.2.2 + 1))
  rw [List.range_succ, List.map_append]
  congr 1
  · apply List.map_congr_left
    intro id hid
    have hlt := List.mem_range.mp hid
    have hne : id ≠ m.2.2.2 := Nat.ne_of_lt hlt
    have e1 : z_ad ad m.2.2.2 q id = ad id := if_neg hne
    rw [e1, zm_E_cong (m := m) (m' := z_new m) (z_nx_ne hne) (z_nx_ne hne) (z_nx_ne hne), zm_E_ad (ad := ad) (ad' := z_ad ad m.2.2.2 q)]
    intro k j hj
    exact if_neg (Nat.ne_of_lt (hwf.1 _ _ _ hj))
  · show [(q, e)] = [(z_ad ad m.2.2.2 q m.2.2.2, zm_E (z_ad ad m.2.2.2 q) ca (z_new m) m.2.2.2)]
    rw [he]
    have e1 : z_ad ad m.2.2.2 q m.2.2.2 = q := if_pos rfl
    rw [e1]
theorem zm_wf_new {m : zM} (h : zm_wf m) (hn : m.2.2.2 < 190) : zm_wf (z_new m) := by
  refine ⟨fun i k j e => ?_, hn⟩
  show j < m.2.2.2 + 1
  have e' : (if i = m.2.2.2 then none else m.2.2.1 i k) = some j := e
  by_cases hc : i = m.2.2.2
  · rw [if_pos hc] at e'
    cases e'
  · rw [if_neg hc] at e'
    exact Nat.lt_succ_of_lt (h.1 _ _ _ e')
theorem z_ad_eq {ad : Nat → Nat} {n q : Nat} (h : n ≤ 190) : z_eq n ad (z_ad ad n q) := fun k hk => if_neg (by omega)
def zm_okT (t : FieldType) : Bool := match t with
  | .int => true
  | .boolean => true
  | .long => true
  | .object _ => true
  | .array _ => true
  | _ => false
theorem zm_Tok : ∀ ci, ci < 13 → ∀ k, k < zm_N ci → zm_okT (zm_T ci k) = true := by decide +kernel
section WM
variable {E : zE} {Q : Option Value → zM → Prop} {pc : Nat} {lv : List (Nat × Value)} {st : List Value} {m : zM}
theorem zm_made {p : Program} {l : Launch} {e : Env} {R : Room} {s : State} {mi : MethodId} {args : Array Value} {below : List Frame} {meth : Method} {c : Code} {D : va_G} {ca : FieldType → Nat} {A : Nat → Prop} {b : Nat → Nat} {Z : State → Prop} {ad : Nat → Nat} {H1 : Heap} {locs : List Loc} {ls : Array Slot} {q pc' : Nat} {en : va_E}
    (hA : zm_A E Q p l e R s mi args below meth c D ca A b Z) (h1 : z_eq (ze_n0 E) b ad) (h4 : z_wl m.2.2.2 lv) (h5 : z_ws m.2.2.2 st) (h6 : ze_n0 E ≤ m.2.2.2) (h7 : lv_has ls (ze_nL E) (z_l ad lv)) (hwf : zm_wf m) (hn : m.2.2.2 < 190)
    (he : zm_E (z_ad ad m.2.2.2 q) ca (z_new m) m.2.2.2 = en) (q1 : va_P D vwCl (zm_W ad ca m ++ [(q, en)]) H1) (q2 : va_D A (zm_W ad ca m ++ [(q, en)])) (q3 : va_S A s.heap H1 locs)
    (k : Wp E Q pc' lv (.ref m.2.2.2 :: st) (z_new m)) : W p l e R s mi args below meth c H1 locs (zm_cs E m + 1) (zm_sl E m + zm_sz m.2.2.2) Z (F0 mi pc' ls (.ref q :: z_s ad st)) := by
  rw [zm_push hwf he] at q1 q2
  have hq := z_ad_eq (ad := ad) (q := q) hwf.2
  have k2 := k p l e R s mi args below meth c D ca A b Z hA (z_ad ad m.2.2.2 q) H1 locs ls (fun j hj => (hq j (hj.imp (fun g => Nat.lt_of_lt_of_le g h6) id)).trans (h1 j hj)) ⟨q1, q2, zm_wf_new hwf hn⟩ q3 (fun x hx => z_w_mono (Nat.le_succ _) (h4 x hx)) (z_ws_cons (Or.inl (Nat.lt_succ_self _)) (fun x hx => z_w_mono (Nat.le_succ _) (h5 x hx))) (Nat.le_succ_of_le h6) (by rw [z_l_eq hq h4]; exact h7)
  have c1 : zm_cs E (z_new m) = zm_cs E m + 1 := by show m.2.2.2 + 1 - ze_n0 E = m.2.2.2 - ze_n0 E + 1; omega
  have c2 : zm_sl E (z_new m) = zm_sl E m + zm_sz m.2.2.2 := by
    show zm_ss m.2.2.2 + zm_sz m.2.2.2 - zm_ss (ze_n0 E) = zm_ss m.2.2.2 - zm_ss (ze_n0 E) + zm_sz m.2.2.2
    have := zm_ss_le h6
    omega
  have c3 : z_s (z_ad ad m.2.2.2 q) (.ref m.2.2.2 :: st) = .ref q :: z_s ad st := by
    show .ref (z_ad ad m.2.2.2 q m.2.2.2) :: z_s (z_ad ad m.2.2.2 q) st = _
    rw [z_s_eq hq h5]
    congr 2
    exact if_pos rfl
  rw [c1, c2, c3] at k2
  exact k2
theorem zm_fit1 {p : Program} {l : Launch} {e : Env} {R : Room} {s : State} {mi : MethodId} {args : Array Value} {below : List Frame} {meth : Method} {c : Code} {D : va_G} {ca : FieldType → Nat} {A : Nat → Prop} {b : Nat → Nat} {Z : State → Prop} (hA : zm_A E Q p l e R s mi args below meth c D ca A b Z) (h6 : ze_n0 E ≤ m.2.2.2) (hn : m.2.2.2 + 1 ≤ ze_n0 E + ze_mc E) : zm_cs E m + 1 ≤ R.cells ∧ zm_sl E m + zm_sz m.2.2.2 ≤ R.slots := by
  obtain ⟨a1, a2, a3, a4, a5, a6, a7, a8, a9, a10, ⟨r1, r2, r3, r4⟩, a12⟩ := hA
  unfold zm_cs zm_sl
  have g1 := zm_ss_le h6
  have g3 := zm_ss_le hn
  have g4 : zm_ss (m.2.2.2 + 1) = zm_ss m.2.2.2 + zm_sz m.2.2.2 := rfl
  omega
theorem w_objInit {idx id : Nat} (hdg : decode (ze_cc E) pc = .ok (.invokespecial idx, 3)) (hl : Cond.methodLink (ze_own E) idx Lib.objectInit ∈ zm_g) (hi : Cond.instanceMethod Lib.objectInit ∈ zm_g) (hc : Cond.code Lib.objectInit ⟨#[0xb1]⟩ 1 none ∈ zm_g) (hh : 1 ≤ ze_h E) (hw : (st.map fun v => v.category).sum ≤ 8) (k : Wp E Q (pc + 3) lv st m) : Wp E Q pc lv (.ref id :: st) m := by
  intro p l e R s mi args below meth c D ca A b Z hA ad H locs ls h1 h2 h3 h4 h5 h6 h7
  have hx := hA.1
  have hb := hA.2.1
  have hts := hA.2.2.2.2.1
  obtain ⟨r1, r2, r3, r4⟩ := hA.2.2.2.2.2.2.2.2.2.2.1
  refine W.objInit hx hb hA.2.2.2.1 (hts _ hl) (hts _ hi) (hts _ hc) (g := F0 mi pc ls (z_s ad (.ref id :: st))) rfl (h7.1.trans hA.2.2.1.symm) (a := ad id) (rest := z_s ad st) rfl hdg (Nat.le_trans hh r1) ?_ (k p l e R s mi args below meth c D ca A b Z hA ad H locs ls h1 h2 h3 h4 (z_ws_tail h5) h6 h7)
  have := zm_stk (ad := ad) hw
  show 2 * 0 + _ + 12 ≤ _
  omega
theorem w_new {idx ci : Nat} (hdg : decode (ze_cc E) pc = .ok (.new idx, 3)) (hci : ci < 13) (hl : Cond.classLink (ze_own E) idx (zm_C ci) ∈ zm_g) (hi : Cond.instantiable (zm_C ci) (zm_N ci) ∈ zm_g) (hini : Cond.initialized (zm_C ci) ∈ zm_g) (hs : zm_sh m.2.2.2 = .inl ci) (hn : m.2.2.2 + 1 ≤ ze_n0 E + ze_mc E) (h190 : m.2.2.2 < 190) (k : Wp E Q (pc + 3) lv (.ref m.2.2.2 :: st) (z_new m)) : Wp E Q pc lv st m := by
  intro p l e R s mi args below meth c D ca A b Z hA ad H locs ls h1 h2 h3 h4 h5 h6 h7
  have hx := hA.1
  have hb := hA.2.1
  have hts := hA.2.2.2.2.1
  obtain ⟨f1, f2⟩ := zm_fit1 hA h6 hn
  have hsz : zm_sz m.2.2.2 = zm_N ci := by unfold zm_sz; rw [hs]
  rw [hsz] at f2
  refine va_new (ci := ci) (fs := (List.range (zm_N ci)).map (fun j => defaultValue (zm_T ci j))) hx hb hts (zm_lays hci) (zm_T ci) (zm_tyok hci) hA.2.2.2.1 (hts _ hl) (hts _ hi) (hts _ hini) hA.2.2.2.2.2.2.2.2.1 h2.1 h2.2.1 h3 hA.2.2.2.2.2.2.2.2.2.1 (zm_cl hci) (fun j hj => ?_) f1 f2 hdg (fun q H1 q1 q2 q3 => ?_)
  · unfold vp_V
    rw [List.getD_eq_getElem?_getD, List.getElem?_map, List.getElem?_range hj]
    rfl
  · have := zm_made hA h1 h4 h5 h6 h7 h2.2.2 h190 (q := q) (by
      unfold zm_E
      rw [hs]
      simp only
      congr 2
      apply List.map_congr_left
      intro j hj
      have hok := zm_Tok ci hci j (List.mem_range.mp hj)
      unfold zm_f z_new
      simp only [z_nx_eq]
      cases ht : zm_T ci j <;> rw [ht] at hok <;> first | (cases hok; done) | rfl) q1 q2 q3 k
    rw [hsz] at this
    exact this
theorem zm_ca {s : State} {D : va_G} {ca : FieldType → Nat} {cA : ClassId} {ty : FieldType} (h : va_K D vwCl (zm_t ca ++ [(cA, ty)]) s) (hin : ∃ t0 : Nat, (zm_t ca)[t0]? = some (ca ty, ty)) : cA = ca ty := by
  obtain ⟨t0, h0⟩ := hin
  have g1 := (h.2 t0 (ca ty, ty) (by rw [List.getElem?_append_left (List.getElem?_eq_some_iff.mp h0).1]; exact h0)).2
  have g2 := (h.2 5 (cA, ty) rfl).2
  cases ty with
  | object C =>
    obtain ⟨k1, c1, -, -, -, e1⟩ := g1
    obtain ⟨k2, c2, -, -, -, e2⟩ := g2
    exact Option.some.inj (e2.symm.trans e1)
  | _ => exact Option.some.inj (g2.symm.trans g1)
theorem w_newarr {atype : ArrayType} {ty : FieldType} {n : Int32} {N : Nat} (hdg : decode (ze_cc E) pc = .ok (.newarray atype, 2)) (hty : newarray.typeOf atype = ty) (h3t : ty = .int ∨ ty = .boolean ∨ ty = .long) (harr : Cond.arrayClass ty ∈ zm_g) (hs : zm_sh m.2.2.2 = .inr (ty, N)) (hn0 : ¬ n < 0) (hN : n.toNatClampNeg = N) (hby : N ≤ 512) (hn : m.2.2.2 + 1 ≤ ze_n0 E + ze_mc E) (h190 : m.2.2.2 < 190) (k : Wp E Q (pc + 2) lv (.ref m.2.2.2 :: st) (z_new m)) : Wp E Q pc lv (.int n :: st) m := by
  intro p l e R s mi args below meth c D ca A b Z hA ad H locs ls h1 h2 h3 h4 h5 h6 h7
  have hx := hA.1
  have hb := hA.2.1
  have hts := hA.2.2.2.2.1
  obtain ⟨f1, f2⟩ := zm_fit1 hA h6 hn
  have hsz : zm_sz m.2.2.2 = N := by unfold zm_sz; rw [hs]
  rw [hsz] at f2
  refine va_newa (a0 := zm_a ad (z_new m) m.2.2.2 N ty) hx hb (by rw [hty]; exact hts _ harr) hty hA.2.2.2.2.2.2.2.2.1 h2.1 h2.2.1 h3 hA.2.2.2.2.2.2.2.2.2.1 (fun cA => ?_) hn0 hN ?_ f1 f2 hdg (fun q cA H1 q0 q1 q2 q3 => ?_)
  · rcases h3t with rfl | rfl | rfl <;> simp only [zm_a, z_new] <;> unfold vp_cell <;> simp only [z_nx_eq] <;> rfl
  · rcases h3t with rfl | rfl | rfl <;> simp only [componentBytes] <;> omega
  · have hca : cA = ca ty := zm_ca q0 (by rcases h3t with rfl | rfl | rfl <;> first | exact ⟨0, rfl⟩ | exact ⟨1, rfl⟩ | exact ⟨2, rfl⟩)
    subst hca
    have := zm_made hA h1 h4 (z_ws_tail h5) h6 h7 h2.2.2 h190 (q := q) (by
      unfold zm_E
      rw [hs]
      simp only
      congr 2
      rcases h3t with rfl | rfl | rfl <;> rfl) q1 q2 q3 k
    rw [hsz] at this
    exact this
theorem w_anew {idx : Nat} {n : Int32} {N : Nat} (hdg : decode (ze_cc E) pc = .ok (.anewarray idx, 3)) (hl : Cond.classLink (ze_own E) idx "TornReeds$Bit" ∈ zm_g) (hs : zm_sh m.2.2.2 = .inr (.object "TornReeds$Bit", N)) (hn0 : ¬ n < 0) (hN : n.toNatClampNeg = N) (hby : N ≤ 512) (hn : m.2.2.2 + 1 ≤ ze_n0 E + ze_mc E) (h190 : m.2.2.2 < 190) (k : Wp E Q (pc + 3) lv (.ref m.2.2.2 :: st) (z_new m)) : Wp E Q pc lv (.int n :: st) m := by
  intro p l e R s mi args below meth c D ca A b Z hA ad H locs ls h1 h2 h3 h4 h5 h6 h7
  have hx := hA.1
  have hb := hA.2.1
  have hts := hA.2.2.2.2.1
  obtain ⟨f1, f2⟩ := zm_fit1 hA h6 hn
  have hsz : zm_sz m.2.2.2 = N := by unfold zm_sz; rw [hs]
  rw [hsz] at f2
  refine va_newq hx hb hA.2.2.2.1 (hts _ hl) hA.2.2.2.2.2.2.1 hA.2.2.2.2.2.2.2.2.1 h2.1 h2.2.1 h3 hA.2.2.2.2.2.2.2.2.2.1 hn0 hN (by omega) f1 f2 hdg (fun q cA H1 q0 q1 q2 q3 => ?_)
  have hca : cA = ca (.object "TornReeds$Bit") := zm_ca q0 ⟨3, rfl⟩
  subst hca
  have := zm_made hA h1 h4 (z_ws_tail h5) h6 h7 h2.2.2 h190 (q := q) (by
    unfold zm_E
    rw [hs]
    simp only [zm_a, z_new, z_nx_eq]
    rfl) q1 q2 q3 k
  rw [hsz] at this
  exact this
/-- copying ints from one array to another -/
theorem w_copyi {idx id0 id1 n0 n1 : Nat} {sp dp n : Int32} (hdg : decode (ze_cc E) pc = .ok (.invokestatic idx, 3)) (hl : Cond.methodLink (ze_own E) idx arraycopyName ∈ zm_g) (hnat : Cond.native arraycopyName ∈ zm_g) (hstt : Cond.static arraycopyName ∈ zm_g) (hini : Cond.initialized "java/lang/System" ∈ zm_g) (h0 : id0 < m.2.2.2) (hs0 : zm_sh id0 = .inr (.int, n0)) (h1' : id1 < m.2.2.2) (hs1 : zm_sh id1 = .inr (.int, n1)) (g1 : ¬ sp < 0) (g2 : ¬ dp < 0) (g3 : ¬ n < 0) (g4 : sp.toNatClampNeg + n.toNatClampNeg ≤ n0) (g5 : dp.toNatClampNeg + n.toNatClampNeg ≤ n1) (hh : 2 ≤ ze_h E) (hw : (st.map fun v => v.category).sum ≤ 8)
    (k : Wp E Q (pc + 3) lv st (fun i => if i = id1 then va_cpy (m.1 id0) (m.1 id1) sp.toNatClampNeg dp.toNatClampNeg n.toNatClampNeg else m.1 i, m.2)) : Wp E Q pc lv (.int n :: .int dp :: .ref id1 :: .int sp :: .ref id0 :: st) m := by
  intro p l e R s mi args below meth c D ca A b Z hA ad H locs ls h1 h2 h3 h4 h5 h6 h7
  have hx := hA.1
  have hb := hA.2.1
  have hts := hA.2.2.2.2.1
  obtain ⟨r1, r2, r3, r4⟩ := hA.2.2.2.2.2.2.2.2.2.2.1
  refine va_copyi hx hb (hA.2.2.1.trans h7.1.symm) hA.2.2.2.1 (hts _ hl) (hts _ hnat) (hts _ hstt) (hts _ hini) hA.2.2.2.2.2.2.2.2.1 h2.1 h2.2.1 h3 id0 id1 0 0 (zm_W_arr ad ca m h0 hs0) (zm_W_arr ad ca m h1' hs1) rfl rfl rfl g1 g2 g3 g4 g5 (fun _ _ => rfl) (by omega) ?_ hdg (fun H1 locs1 q1 q2 q3 => ?_)
  · have := zm_stk (ad := ad) hw
    have e1 : nativeFrameWords "java/lang/System" "arraycopy" 5 ≤ 40 := by decide +kernel
    show ((z_s ad st).map fun v => v.category).sum + _ ≤ _
    omega
  · have ee : (zm_W ad ca m).set id1 (ad id1, .inl (ca .int, n1, .inl (va_cpy (m.1 id0) (m.1 id1) sp.toNatClampNeg dp.toNatClampNeg n.toNatClampNeg))) = zm_W ad ca (fun i => if i = id1 then va_cpy (m.1 id0) (m.1 id1) sp.toNatClampNeg dp.toNatClampNeg n.toNatClampNeg else m.1 i, m.2) := by
      rw [← zm_W_set ad ca (m := m) (m' := (fun i => if i = id1 then va_cpy (m.1 id0) (m.1 id1) sp.toNatClampNeg dp.toNatClampNeg n.toNatClampNeg else m.1 i, m.2)) (id := id1) rfl (fun j hj => zm_E_cong (by show (if j = id1 then _ else _) = _; rw [if_neg hj]) rfl rfl)]
      congr 3
      unfold zm_E
      rw [hs1]
      simp only [zm_a]
      rw [if_pos trivial]
    rw [ee] at q1 q2
    exact k p l e R s mi args below meth c D ca A b Z hA ad H1 locs1 ls h1 ⟨q1, q2, h2.2.2⟩ q3 h4 (z_ws_tail (z_ws_tail (z_ws_tail (z_ws_tail (z_ws_tail h5))))) h6 h7
end WM
end
