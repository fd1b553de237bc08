section
-- ===== PART A: goes FIRST, ahead of the names: the tables' words, and 'selects' of the private methods out of them =====
/-- a private method of a class that the tables say can be made, by its rows of tables_1 -/
def lw_okq (q : MethodName × Nat) : Prop := (q.1.cls ≠ "java/lang/invoke/MethodHandle" ∧ q.1.cls ≠ "java/lang/invoke/VarHandle") ∧ Cond.instantiable q.1.cls q.2 ∈ tables_1 ∧ Cond.privateMethod q.1 ∈ tables_1 ∧ Cond.instanceMethod q.1 ∈ tables_1
theorem lw_p0 : lw_okq (⟨"TornReeds$Sheet", "own", "(LTornReeds$Bit;III)V"⟩, 5) := ⟨⟨by decide +kernel, by decide +kernel⟩, List.mem_of_getElem? (i := 180) (by decide +kernel), List.mem_of_getElem? (i := 373) (by decide +kernel), List.mem_of_getElem? (i := 374) (by decide +kernel)⟩
theorem lw_p1 : lw_okq (⟨"TornReeds$Lanes", "has", "(I)Z"⟩, 2) := ⟨⟨by decide +kernel, by decide +kernel⟩, List.mem_of_getElem? (i := 186) (by decide +kernel), List.mem_of_getElem? (i := 385) (by decide +kernel), List.mem_of_getElem? (i := 386) (by decide +kernel)⟩
theorem lw_p2 : lw_okq (⟨"TornReeds$Bit", "clear", "()V"⟩, 16) := ⟨⟨by decide +kernel, by decide +kernel⟩, List.mem_of_getElem? (i := 47) (by decide +kernel), List.mem_of_getElem? (i := 393) (by decide +kernel), List.mem_of_getElem? (i := 394) (by decide +kernel)⟩
theorem lw_p3 : lw_okq (⟨"TornReeds$Bit", "addCell", "(III)V"⟩, 16) := ⟨⟨by decide +kernel, by decide +kernel⟩, List.mem_of_getElem? (i := 47) (by decide +kernel), List.mem_of_getElem? (i := 401) (by decide +kernel), List.mem_of_getElem? (i := 402) (by decide +kernel)⟩
theorem lw_p4 : lw_okq (⟨"TornReeds", "bitOf", "(I)LTornReeds$Bit;"⟩, 7) := ⟨⟨by decide +kernel, by decide +kernel⟩, List.mem_of_getElem? (i := 17) (by decide +kernel), List.mem_of_getElem? (i := 412) (by decide +kernel), List.mem_of_getElem? (i := 413) (by decide +kernel)⟩
theorem lw_p5 : lw_okq (⟨"TornReeds$Sheet", "runsCan", "(IIILTornReeds$WordList;)Z"⟩, 5) := ⟨⟨by decide +kernel, by decide +kernel⟩, List.mem_of_getElem? (i := 180) (by decide +kernel), List.mem_of_getElem? (i := 458) (by decide +kernel), List.mem_of_getElem? (i := 459) (by decide +kernel)⟩
theorem lw_p6 : lw_okq (⟨"TornReeds$Sheet", "startOfRun", "(II)I"⟩, 5) := ⟨⟨by decide +kernel, by decide +kernel⟩, List.mem_of_getElem? (i := 180) (by decide +kernel), List.mem_of_getElem? (i := 462) (by decide +kernel), List.mem_of_getElem? (i := 463) (by decide +kernel)⟩
theorem lw_p7 : lw_okq (⟨"TornReeds", "looseBit", "(I)LTornReeds$Bit;"⟩, 7) := ⟨⟨by decide +kernel, by decide +kernel⟩, List.mem_of_getElem? (i := 17) (by decide +kernel), List.mem_of_getElem? (i := 560) (by decide +kernel), List.mem_of_getElem? (i := 561) (by decide +kernel)⟩
theorem lw_p8 : lw_okq (⟨"TornReeds$Sheet", "taken", "(II)I"⟩, 5) := ⟨⟨by decide +kernel, by decide +kernel⟩, List.mem_of_getElem? (i := 180) (by decide +kernel), List.mem_of_getElem? (i := 578) (by decide +kernel), List.mem_of_getElem? (i := 579) (by decide +kernel)⟩
theorem lw_p9 : lw_okq (⟨"TornReeds$Places", "add", "(IIIZ)V"⟩, 5) := ⟨⟨by decide +kernel, by decide +kernel⟩, List.mem_of_getElem? (i := 222) (by decide +kernel), List.mem_of_getElem? (i := 584) (by decide +kernel), List.mem_of_getElem? (i := 585) (by decide +kernel)⟩
theorem lw_p10 : lw_okq (⟨"TornReeds$Search", "weigh", "(LTornReeds$Bit;ILTornReeds$Bit;ILTornReeds$Sheet;LTornReeds$WordList;)V"⟩, 7) := ⟨⟨by decide +kernel, by decide +kernel⟩, List.mem_of_getElem? (i := 216) (by decide +kernel), List.mem_of_getElem? (i := 620) (by decide +kernel), List.mem_of_getElem? (i := 621) (by decide +kernel)⟩
theorem lw_p11 : lw_okq (⟨"TornReeds$Search", "gainOf", "(II)I"⟩, 7) := ⟨⟨by decide +kernel, by decide +kernel⟩, List.mem_of_getElem? (i := 216) (by decide +kernel), List.mem_of_getElem? (i := 624) (by decide +kernel), List.mem_of_getElem? (i := 625) (by decide +kernel)⟩
theorem lw_p12 : lw_okq (⟨"TornReeds$Pairing", "columnsMeet", "(I)Z"⟩, 3) := ⟨⟨by decide +kernel, by decide +kernel⟩, List.mem_of_getElem? (i := 249) (by decide +kernel), List.mem_of_getElem? (i := 636) (by decide +kernel), List.mem_of_getElem? (i := 637) (by decide +kernel)⟩
theorem lw_p13 : lw_okq (⟨"TornReeds$Roll", "stoodBy", "(LTornReeds$Bit;I)Z"⟩, 2) := ⟨⟨by decide +kernel, by decide +kernel⟩, List.mem_of_getElem? (i := 287) (by decide +kernel), List.mem_of_getElem? (i := 684) (by decide +kernel), List.mem_of_getElem? (i := 685) (by decide +kernel)⟩
theorem lw_p14 : lw_okq (⟨"TornReeds$KnownText", "firstShift", "(LTornReeds$Bit;I)I"⟩, 2) := ⟨⟨by decide +kernel, by decide +kernel⟩, List.mem_of_getElem? (i := 301) (by decide +kernel), List.mem_of_getElem? (i := 718) (by decide +kernel), List.mem_of_getElem? (i := 719) (by decide +kernel)⟩
theorem lw_p15 : lw_okq (⟨"TornReeds$KnownText", "standsAt", "(LTornReeds$Bit;II)Z"⟩, 2) := ⟨⟨by decide +kernel, by decide +kernel⟩, List.mem_of_getElem? (i := 301) (by decide +kernel), List.mem_of_getElem? (i := 722) (by decide +kernel), List.mem_of_getElem? (i := 723) (by decide +kernel)⟩
def lw_privs_1 : List (MethodName × Nat) := [(⟨"TornReeds$Sheet", "own", "(LTornReeds$Bit;III)V"⟩, 5), (⟨"TornReeds$Lanes", "has", "(I)Z"⟩, 2), (⟨"TornReeds$Bit", "clear", "()V"⟩, 16), (⟨"TornReeds$Bit", "addCell", "(III)V"⟩, 16), (⟨"TornReeds", "bitOf", "(I)LTornReeds$Bit;"⟩, 7), (⟨"TornReeds$Sheet", "runsCan", "(IIILTornReeds$WordList;)Z"⟩, 5), (⟨"TornReeds$Sheet", "startOfRun", "(II)I"⟩, 5), (⟨"TornReeds", "looseBit", "(I)LTornReeds$Bit;"⟩, 7), (⟨"TornReeds$Sheet", "taken", "(II)I"⟩, 5), (⟨"TornReeds$Places", "add", "(IIIZ)V"⟩, 5), (⟨"TornReeds$Search", "weigh", "(LTornReeds$Bit;ILTornReeds$Bit;ILTornReeds$Sheet;LTornReeds$WordList;)V"⟩, 7), (⟨"TornReeds$Search", "gainOf", "(II)I"⟩, 7), (⟨"TornReeds$Pairing", "columnsMeet", "(I)Z"⟩, 3), (⟨"TornReeds$Roll", "stoodBy", "(LTornReeds$Bit;I)Z"⟩, 2), (⟨"TornReeds$KnownText", "firstShift", "(LTornReeds$Bit;I)I"⟩, 2), (⟨"TornReeds$KnownText", "standsAt", "(LTornReeds$Bit;II)Z"⟩, 2)]
theorem lw_r1 : ∀ q ∈ lw_privs_1, lw_okq q := List.forall_mem_cons.mpr ⟨lw_p0, List.forall_mem_cons.mpr ⟨lw_p1, List.forall_mem_cons.mpr ⟨lw_p2, List.forall_mem_cons.mpr ⟨lw_p3, List.forall_mem_cons.mpr ⟨lw_p4, List.forall_mem_cons.mpr ⟨lw_p5, List.forall_mem_cons.mpr ⟨lw_p6, List.forall_mem_cons.mpr ⟨lw_p7, List.forall_mem_cons.mpr ⟨lw_p8, List.forall_mem_cons.mpr ⟨lw_p9, List.forall_mem_cons.mpr ⟨lw_p10, List.forall_mem_cons.mpr ⟨lw_p11, List.forall_mem_cons.mpr ⟨lw_p12, List.forall_mem_cons.mpr ⟨lw_p13, List.forall_mem_cons.mpr ⟨lw_p14, List.forall_mem_cons.mpr ⟨lw_p15, fun _ h => absurd h List.not_mem_nil⟩⟩⟩⟩⟩⟩⟩⟩⟩⟩⟩⟩⟩⟩⟩⟩
theorem lw_p16 : lw_okq (⟨"TornReeds$KnownText", "agrees", "(II)Z"⟩, 2) := ⟨⟨by decide +kernel, by decide +kernel⟩, List.mem_of_getElem? (i := 301) (by decide +kernel), List.mem_of_getElem? (i := 730) (by decide +kernel), List.mem_of_getElem? (i := 731) (by decide +kernel)⟩
theorem lw_p17 : lw_okq (⟨"TornReedsModel", "reads", "(I)I"⟩, 30) := ⟨⟨by decide +kernel, by decide +kernel⟩, List.mem_of_getElem? (i := 746) (by decide +kernel), List.mem_of_getElem? (i := 858) (by decide +kernel), List.mem_of_getElem? (i := 859) (by decide +kernel)⟩
theorem lw_p18 : lw_okq (⟨"TornReedsModel", "isBit", "(I)Z"⟩, 30) := ⟨⟨by decide +kernel, by decide +kernel⟩, List.mem_of_getElem? (i := 746) (by decide +kernel), List.mem_of_getElem? (i := 869) (by decide +kernel), List.mem_of_getElem? (i := 870) (by decide +kernel)⟩
theorem lw_p19 : lw_okq (⟨"TornReedsModel", "puts", "(III)V"⟩, 30) := ⟨⟨by decide +kernel, by decide +kernel⟩, List.mem_of_getElem? (i := 746) (by decide +kernel), List.mem_of_getElem? (i := 885) (by decide +kernel), List.mem_of_getElem? (i := 886) (by decide +kernel)⟩
theorem lw_p20 : lw_okq (⟨"TornReedsModel", "mayLie", "()Z"⟩, 30) := ⟨⟨by decide +kernel, by decide +kernel⟩, List.mem_of_getElem? (i := 746) (by decide +kernel), List.mem_of_getElem? (i := 889) (by decide +kernel), List.mem_of_getElem? (i := 890) (by decide +kernel)⟩
theorem lw_p21 : lw_okq (⟨"TornReedsModel", "laysAll", "()Z"⟩, 30) := ⟨⟨by decide +kernel, by decide +kernel⟩, List.mem_of_getElem? (i := 746) (by decide +kernel), List.mem_of_getElem? (i := 893) (by decide +kernel), List.mem_of_getElem? (i := 894) (by decide +kernel)⟩
theorem lw_p22 : lw_okq (⟨"TornReedsModel", "lays", "(I)Z"⟩, 30) := ⟨⟨by decide +kernel, by decide +kernel⟩, List.mem_of_getElem? (i := 746) (by decide +kernel), List.mem_of_getElem? (i := 897) (by decide +kernel), List.mem_of_getElem? (i := 898) (by decide +kernel)⟩
theorem lw_p23 : lw_okq (⟨"TornReedsModel", "at", "(III)I"⟩, 30) := ⟨⟨by decide +kernel, by decide +kernel⟩, List.mem_of_getElem? (i := 746) (by decide +kernel), List.mem_of_getElem? (i := 901) (by decide +kernel), List.mem_of_getElem? (i := 902) (by decide +kernel)⟩
theorem lw_p24 : lw_okq (⟨"TornReedsModel", "quarrel", "(II)Z"⟩, 30) := ⟨⟨by decide +kernel, by decide +kernel⟩, List.mem_of_getElem? (i := 746) (by decide +kernel), List.mem_of_getElem? (i := 905) (by decide +kernel), List.mem_of_getElem? (i := 906) (by decide +kernel)⟩
theorem lw_p25 : lw_okq (⟨"TornReedsModel", "acrossOf", "(III)I"⟩, 30) := ⟨⟨by decide +kernel, by decide +kernel⟩, List.mem_of_getElem? (i := 746) (by decide +kernel), List.mem_of_getElem? (i := 909) (by decide +kernel), List.mem_of_getElem? (i := 910) (by decide +kernel)⟩
theorem lw_p26 : lw_okq (⟨"TornReedsModel", "hasInRow", "(II)Z"⟩, 30) := ⟨⟨by decide +kernel, by decide +kernel⟩, List.mem_of_getElem? (i := 746) (by decide +kernel), List.mem_of_getElem? (i := 913) (by decide +kernel), List.mem_of_getElem? (i := 914) (by decide +kernel)⟩
theorem lw_p27 : lw_okq (⟨"TornReedsModel", "downOf", "(III)I"⟩, 30) := ⟨⟨by decide +kernel, by decide +kernel⟩, List.mem_of_getElem? (i := 746) (by decide +kernel), List.mem_of_getElem? (i := 917) (by decide +kernel), List.mem_of_getElem? (i := 918) (by decide +kernel)⟩
theorem lw_p28 : lw_okq (⟨"TornReedsModel", "hasInColumn", "(II)Z"⟩, 30) := ⟨⟨by decide +kernel, by decide +kernel⟩, List.mem_of_getElem? (i := 746) (by decide +kernel), List.mem_of_getElem? (i := 921) (by decide +kernel), List.mem_of_getElem? (i := 922) (by decide +kernel)⟩
theorem lw_p29 : lw_okq (⟨"TornReedsModel", "runsCan", "()Z"⟩, 30) := ⟨⟨by decide +kernel, by decide +kernel⟩, List.mem_of_getElem? (i := 746) (by decide +kernel), List.mem_of_getElem? (i := 925) (by decide +kernel), List.mem_of_getElem? (i := 926) (by decide +kernel)⟩
theorem lw_p30 : lw_okq (⟨"TornReedsModel", "isInk", "(I)Z"⟩, 30) := ⟨⟨by decide +kernel, by decide +kernel⟩, List.mem_of_getElem? (i := 746) (by decide +kernel), List.mem_of_getElem? (i := 929) (by decide +kernel), List.mem_of_getElem? (i := 930) (by decide +kernel)⟩
theorem lw_p31 : lw_okq (⟨"TornReedsModel", "runAt", "(II)V"⟩, 30) := ⟨⟨by decide +kernel, by decide +kernel⟩, List.mem_of_getElem? (i := 746) (by decide +kernel), List.mem_of_getElem? (i := 933) (by decide +kernel), List.mem_of_getElem? (i := 934) (by decide +kernel)⟩
def lw_privs_2 : List (MethodName × Nat) := [(⟨"TornReeds$KnownText", "agrees", "(II)Z"⟩, 2), (⟨"TornReedsModel", "reads", "(I)I"⟩, 30), (⟨"TornReedsModel", "isBit", "(I)Z"⟩, 30), (⟨"TornReedsModel", "puts", "(III)V"⟩, 30), (⟨"TornReedsModel", "mayLie", "()Z"⟩, 30), (⟨"TornReedsModel", "laysAll", "()Z"⟩, 30), (⟨"TornReedsModel", "lays", "(I)Z"⟩, 30), (⟨"TornReedsModel", "at", "(III)I"⟩, 30), (⟨"TornReedsModel", "quarrel", "(II)Z"⟩, 30), (⟨"TornReedsModel", "acrossOf", "(III)I"⟩, 30), (⟨"TornReedsModel", "hasInRow", "(II)Z"⟩, 30), (⟨"TornReedsModel", "downOf", "(III)I"⟩, 30), (⟨"TornReedsModel", "hasInColumn", "(II)Z"⟩, 30), (⟨"TornReedsModel", "runsCan", "()Z"⟩, 30), (⟨"TornReedsModel", "isInk", "(I)Z"⟩, 30), (⟨"TornReedsModel", "runAt", "(II)V"⟩, 30)]
theorem lw_r2 : ∀ q ∈ lw_privs_2, lw_okq q := List.forall_mem_cons.mpr ⟨lw_p16, List.forall_mem_cons.mpr ⟨lw_p17, List.forall_mem_cons.mpr ⟨lw_p18, List.forall_mem_cons.mpr ⟨lw_p19, List.forall_mem_cons.mpr ⟨lw_p20, List.forall_mem_cons.mpr ⟨lw_p21, List.forall_mem_cons.mpr ⟨lw_p22, List.forall_mem_cons.mpr ⟨lw_p23, List.forall_mem_cons.mpr ⟨lw_p24, List.forall_mem_cons.mpr ⟨lw_p25, List.forall_mem_cons.mpr ⟨lw_p26, List.forall_mem_cons.mpr ⟨lw_p27, List.forall_mem_cons.mpr ⟨lw_p28, List.forall_mem_cons.mpr ⟨lw_p29, List.forall_mem_cons.mpr ⟨lw_p30, List.forall_mem_cons.mpr ⟨lw_p31, fun _ h => absurd h List.not_mem_nil⟩⟩⟩⟩⟩⟩⟩⟩⟩⟩⟩⟩⟩⟩⟩⟩
theorem lw_p32 : lw_okq (⟨"TornReedsModel", "canAny", "()Z"⟩, 30) := ⟨⟨by decide +kernel, by decide +kernel⟩, List.mem_of_getElem? (i := 746) (by decide +kernel), List.mem_of_getElem? (i := 937) (by decide +kernel), List.mem_of_getElem? (i := 938) (by decide +kernel)⟩
theorem lw_p33 : lw_okq (⟨"TornReedsModel", "canBe", "(I)Z"⟩, 30) := ⟨⟨by decide +kernel, by decide +kernel⟩, List.mem_of_getElem? (i := 746) (by decide +kernel), List.mem_of_getElem? (i := 941) (by decide +kernel), List.mem_of_getElem? (i := 942) (by decide +kernel)⟩
theorem lw_p34 : lw_okq (⟨"TornReedsModel", "isFrom", "(II)Z"⟩, 30) := ⟨⟨by decide +kernel, by decide +kernel⟩, List.mem_of_getElem? (i := 746) (by decide +kernel), List.mem_of_getElem? (i := 945) (by decide +kernel), List.mem_of_getElem? (i := 946) (by decide +kernel)⟩
theorem lw_p35 : lw_okq (⟨"TornReedsModel", "hasRun", "(II)Z"⟩, 30) := ⟨⟨by decide +kernel, by decide +kernel⟩, List.mem_of_getElem? (i := 746) (by decide +kernel), List.mem_of_getElem? (i := 972) (by decide +kernel), List.mem_of_getElem? (i := 973) (by decide +kernel)⟩
theorem lw_p36 : lw_okq (⟨"TornReedsModel", "worthNow", "()I"⟩, 30) := ⟨⟨by decide +kernel, by decide +kernel⟩, List.mem_of_getElem? (i := 746) (by decide +kernel), List.mem_of_getElem? (i := 984) (by decide +kernel), List.mem_of_getElem? (i := 985) (by decide +kernel)⟩
theorem lw_p37 : lw_okq (⟨"TornReedsModel", "worthOf", "(II)I"⟩, 30) := ⟨⟨by decide +kernel, by decide +kernel⟩, List.mem_of_getElem? (i := 746) (by decide +kernel), List.mem_of_getElem? (i := 988) (by decide +kernel), List.mem_of_getElem? (i := 989) (by decide +kernel)⟩
theorem lw_p38 : lw_okq (⟨"TornReedsModel", "sides", "(II)I"⟩, 30) := ⟨⟨by decide +kernel, by decide +kernel⟩, List.mem_of_getElem? (i := 746) (by decide +kernel), List.mem_of_getElem? (i := 992) (by decide +kernel), List.mem_of_getElem? (i := 993) (by decide +kernel)⟩
theorem lw_p39 : lw_okq (⟨"TornReedsModel", "mayJoin", "(I)Z"⟩, 30) := ⟨⟨by decide +kernel, by decide +kernel⟩, List.mem_of_getElem? (i := 746) (by decide +kernel), List.mem_of_getElem? (i := 1000) (by decide +kernel), List.mem_of_getElem? (i := 1001) (by decide +kernel)⟩
theorem lw_p40 : lw_okq (⟨"TornReedsModel", "anyLies", "()Z"⟩, 30) := ⟨⟨by decide +kernel, by decide +kernel⟩, List.mem_of_getElem? (i := 746) (by decide +kernel), List.mem_of_getElem? (i := 1004) (by decide +kernel), List.mem_of_getElem? (i := 1005) (by decide +kernel)⟩
theorem lw_p41 : lw_okq (⟨"TornReedsModel", "tries", "(II)I"⟩, 30) := ⟨⟨by decide +kernel, by decide +kernel⟩, List.mem_of_getElem? (i := 746) (by decide +kernel), List.mem_of_getElem? (i := 1008) (by decide +kernel), List.mem_of_getElem? (i := 1009) (by decide +kernel)⟩
theorem lw_p42 : lw_okq (⟨"TornReedsModel", "notesEarly", "()V"⟩, 30) := ⟨⟨by decide +kernel, by decide +kernel⟩, List.mem_of_getElem? (i := 746) (by decide +kernel), List.mem_of_getElem? (i := 1012) (by decide +kernel), List.mem_of_getElem? (i := 1013) (by decide +kernel)⟩
theorem lw_p43 : lw_okq (⟨"TornReedsModel", "fits", "(I)I"⟩, 30) := ⟨⟨by decide +kernel, by decide +kernel⟩, List.mem_of_getElem? (i := 746) (by decide +kernel), List.mem_of_getElem? (i := 1025) (by decide +kernel), List.mem_of_getElem? (i := 1026) (by decide +kernel)⟩
theorem lw_p44 : lw_okq (⟨"TornReedsModel", "seconds", "(IIII)V"⟩, 30) := ⟨⟨by decide +kernel, by decide +kernel⟩, List.mem_of_getElem? (i := 746) (by decide +kernel), List.mem_of_getElem? (i := 1029) (by decide +kernel), List.mem_of_getElem? (i := 1030) (by decide +kernel)⟩
theorem lw_p45 : lw_okq (⟨"TornReedsModel", "mayTouch", "(IIII)Z"⟩, 30) := ⟨⟨by decide +kernel, by decide +kernel⟩, List.mem_of_getElem? (i := 746) (by decide +kernel), List.mem_of_getElem? (i := 1033) (by decide +kernel), List.mem_of_getElem? (i := 1034) (by decide +kernel)⟩
theorem lw_p46 : lw_okq (⟨"TornReedsModel", "holds", "(IIII)V"⟩, 30) := ⟨⟨by decide +kernel, by decide +kernel⟩, List.mem_of_getElem? (i := 746) (by decide +kernel), List.mem_of_getElem? (i := 1037) (by decide +kernel), List.mem_of_getElem? (i := 1038) (by decide +kernel)⟩
theorem lw_p47 : lw_okq (⟨"TornReedsModel", "mayStand", "(I)Z"⟩, 30) := ⟨⟨by decide +kernel, by decide +kernel⟩, List.mem_of_getElem? (i := 746) (by decide +kernel), List.mem_of_getElem? (i := 1057) (by decide +kernel), List.mem_of_getElem? (i := 1058) (by decide +kernel)⟩
def lw_privs_3 : List (MethodName × Nat) := [(⟨"TornReedsModel", "canAny", "()Z"⟩, 30), (⟨"TornReedsModel", "canBe", "(I)Z"⟩, 30), (⟨"TornReedsModel", "isFrom", "(II)Z"⟩, 30), (⟨"TornReedsModel", "hasRun", "(II)Z"⟩, 30), (⟨"TornReedsModel", "worthNow", "()I"⟩, 30), (⟨"TornReedsModel", "worthOf", "(II)I"⟩, 30), (⟨"TornReedsModel", "sides", "(II)I"⟩, 30), (⟨"TornReedsModel", "mayJoin", "(I)Z"⟩, 30), (⟨"TornReedsModel", "anyLies", "()Z"⟩, 30), (⟨"TornReedsModel", "tries", "(II)I"⟩, 30), (⟨"TornReedsModel", "notesEarly", "()V"⟩, 30), (⟨"TornReedsModel", "fits", "(I)I"⟩, 30), (⟨"TornReedsModel", "seconds", "(IIII)V"⟩, 30), (⟨"TornReedsModel", "mayTouch", "(IIII)Z"⟩, 30), (⟨"TornReedsModel", "holds", "(IIII)V"⟩, 30), (⟨"TornReedsModel", "mayStand", "(I)Z"⟩, 30)]
theorem lw_r3 : ∀ q ∈ lw_privs_3, lw_okq q := List.forall_mem_cons.mpr ⟨lw_p32, List.forall_mem_cons.mpr ⟨lw_p33, List.forall_mem_cons.mpr ⟨lw_p34, List.forall_mem_cons.mpr ⟨lw_p35, List.forall_mem_cons.mpr ⟨lw_p36, List.forall_mem_cons.mpr ⟨lw_p37, List.forall_mem_cons.mpr ⟨lw_p38, List.forall_mem_cons.mpr ⟨lw_p39, List.forall_mem_cons.mpr ⟨lw_p40, List.forall_mem_cons.mpr ⟨lw_p41, List.forall_mem_cons.mpr ⟨lw_p42, List.forall_mem_cons.mpr ⟨lw_p43, List.forall_mem_cons.mpr ⟨lw_p44, List.forall_mem_cons.mpr ⟨lw_p45, List.forall_mem_cons.mpr ⟨lw_p46, List.forall_mem_cons.mpr ⟨lw_p47, fun _ h => absurd h List.not_mem_nil⟩⟩⟩⟩⟩⟩⟩⟩⟩⟩⟩⟩⟩⟩⟩⟩
theorem lw_p48 : lw_okq (⟨"TornReedsModel", "stoods", "(II)I"⟩, 30) := ⟨⟨by decide +kernel, by decide +kernel⟩, List.mem_of_getElem? (i := 746) (by decide +kernel), List.mem_of_getElem? (i := 1061) (by decide +kernel), List.mem_of_getElem? (i := 1062) (by decide +kernel)⟩
theorem lw_p49 : lw_okq (⟨"TornReedsModel", "stoodAt", "(II)Z"⟩, 30) := ⟨⟨by decide +kernel, by decide +kernel⟩, List.mem_of_getElem? (i := 746) (by decide +kernel), List.mem_of_getElem? (i := 1065) (by decide +kernel), List.mem_of_getElem? (i := 1066) (by decide +kernel)⟩
theorem lw_p50 : lw_okq (⟨"TornReedsModel", "standsBy", "(III)I"⟩, 30) := ⟨⟨by decide +kernel, by decide +kernel⟩, List.mem_of_getElem? (i := 746) (by decide +kernel), List.mem_of_getElem? (i := 1081) (by decide +kernel), List.mem_of_getElem? (i := 1082) (by decide +kernel)⟩
theorem lw_p51 : lw_okq (⟨"TornReedsModel", "hasInk", "(I)Z"⟩, 30) := ⟨⟨by decide +kernel, by decide +kernel⟩, List.mem_of_getElem? (i := 746) (by decide +kernel), List.mem_of_getElem? (i := 1085) (by decide +kernel), List.mem_of_getElem? (i := 1086) (by decide +kernel)⟩
theorem lw_p52 : lw_okq (⟨"TornReedsModel", "standsAt", "(III)Z"⟩, 30) := ⟨⟨by decide +kernel, by decide +kernel⟩, List.mem_of_getElem? (i := 746) (by decide +kernel), List.mem_of_getElem? (i := 1089) (by decide +kernel), List.mem_of_getElem? (i := 1090) (by decide +kernel)⟩
def lw_privs_4 : List (MethodName × Nat) := [(⟨"TornReedsModel", "stoods", "(II)I"⟩, 30), (⟨"TornReedsModel", "stoodAt", "(II)Z"⟩, 30), (⟨"TornReedsModel", "standsBy", "(III)I"⟩, 30), (⟨"TornReedsModel", "hasInk", "(I)Z"⟩, 30), (⟨"TornReedsModel", "standsAt", "(III)Z"⟩, 30)]
theorem lw_r4 : ∀ q ∈ lw_privs_4, lw_okq q := List.forall_mem_cons.mpr ⟨lw_p48, List.forall_mem_cons.mpr ⟨lw_p49, List.forall_mem_cons.mpr ⟨lw_p50, List.forall_mem_cons.mpr ⟨lw_p51, List.forall_mem_cons.mpr ⟨lw_p52, fun _ h => absurd h List.not_mem_nil⟩⟩⟩⟩⟩
def lw_privs : List (MethodName × Nat) := lw_privs_1 ++ (lw_privs_2 ++ (lw_privs_3 ++ (lw_privs_4)))
def lw_tbl : List Cond := k2_sels lw_privs ++ tables_1
theorem lw_privs_ok : ∀ q ∈ lw_privs, lw_okq q := by
  show ∀ q ∈ lw_privs_1 ++ (lw_privs_2 ++ (lw_privs_3 ++ (lw_privs_4))), lw_okq q
  exact List.forall_mem_append.mpr ⟨lw_r1, List.forall_mem_append.mpr ⟨lw_r2, List.forall_mem_append.mpr ⟨lw_r3, lw_r4⟩⟩⟩
-- ===== end of PART A; then your names; then what follows =====
end
section
/-! ===== BEGIN words of one list among another's, by their places ===== -/
theorem goodIn_r {big : List Cond} (ws : List Cond) (ps : List Nat) (hp : ws = ps.filterMap (fun i => big[i]?)) (h : ws.all goodWord = true) : GoodIn big ws := by
  intro w hw
  have h1 := List.all_eq_true.mp h w hw
  rw [hp] at hw
  obtain ⟨i, -, hi⟩ := List.mem_filterMap.mp hw
  have hm : w ∈ big := by first | exact List.mem_of_getElem? hi | exact List.getElem?_mem hi
  exact ⟨hm, good_of_word h1⟩
theorem goodIn_app {big a b : List Cond} (ha : GoodIn big a) (hb : GoodIn big b) : GoodIn big (a ++ b) := fun w h => (List.mem_append.mp h).elim (ha w) (hb w)
theorem goodIn_ca {big a b : List Cond} {c : Cond} (ha : GoodIn big (c :: a)) (hb : GoodIn big b) : GoodIn big (c :: (a ++ b)) := fun w h => (List.mem_cons.mp h).elim (fun e => ha w (List.mem_cons.mpr (Or.inl e))) (fun h => (List.mem_append.mp h).elim (fun h => ha w (List.mem_cons.mpr (Or.inr h))) (hb w))
theorem goodIn_sub {big ws : List Cond} (hm : ∀ w ∈ ws, w ∈ big) (h : ws.all goodWord = true) : GoodIn big ws := fun w hw => ⟨hm w hw, good_of_word (List.all_eq_true.mp h w hw)⟩
/-! ===== END ===== -/
def RX0 : String := "TornReeds$Bit"
def TX0 : u_T := fun k => match k with
  | 0 => ("TornReeds$Bit", "number", "I", true)
  | 1 => ("TornReeds$Bit", "signs", "[I", true)
  | 2 => ("TornReeds$Bit", "cellRows", "[I", true)
  | 3 => ("TornReeds$Bit", "cellColumns", "[I", true)
  | 4 => ("TornReeds$Bit", "cells", "I", false)
  | 5 => ("TornReeds$Bit", "firstColumns", "[I", true)
  | 6 => ("TornReeds$Bit", "lastColumns", "[I", true)
  | 7 => ("TornReeds$Bit", "firstText", "I", false)
  | 8 => ("TornReeds$Bit", "lastTextColumn", "I", false)
  | 9 => ("TornReeds$Bit", "across", "LTornReeds$Fibres;", true)
  | 10 => ("TornReeds$Bit", "down", "LTornReeds$Fibres;", true)
  | 11 => ("TornReeds$Bit", "holes", "[I", true)
  | 12 => ("TornReeds$Bit", "holeCount", "I", false)
  | 13 => ("TornReeds$Bit", "lies", "Z", false)
  | 14 => ("TornReeds$Bit", "row", "I", false)
  | _ => ("TornReeds$Bit", "column", "I", false)
def tyX0 : Nat → FieldType := fun k => match k with
  | 0 => .int
  | 1 => .array .int
  | 2 => .array .int
  | 3 => .array .int
  | 4 => .int
  | 5 => .array .int
  | 6 => .array .int
  | 7 => .int
  | 8 => .int
  | 9 => .object "TornReeds$Fibres"
  | 10 => .object "TornReeds$Fibres"
  | 11 => .array .int
  | 12 => .int
  | 13 => .boolean
  | 14 => .int
  | _ => .int
abbrev wsX00 : List Cond := u_ws RX0 TX0 16
theorem nmX0 : ∀ a, a < 16 → ∀ b, b < 16 → a ≠ b → (TX0 a).2.1 ≠ (TX0 b).2.1 := by decide +kernel
theorem tyX0_ok : ∀ k, k < 16 → parseFieldDescriptor (TX0 k).2.2.1 = some (tyX0 k) := by decide +kernel
abbrev cX0_init : ByteArray := prog_2_method_1_code
def yX0_init : MethodName := ⟨RX0, "<init>", "(I)V"⟩
abbrev cX0_cellsTold : ByteArray := prog_2_method_2_code
def yX0_cellsTold : MethodName := ⟨RX0, "cellsTold", "(LTornReeds$Tape;)I"⟩
abbrev cX0_isSign : ByteArray := prog_2_method_3_code
def yX0_isSign : MethodName := ⟨RX0, "isSign", "(I)Z"⟩
abbrev cX0_become : ByteArray := prog_2_method_4_code
def yX0_become : MethodName := ⟨RX0, "become", "(LTornReeds$Tape;)V"⟩
abbrev cX0_clear : ByteArray := prog_2_method_5_code
def yX0_clear : MethodName := ⟨RX0, "clear", "()V"⟩
abbrev cX0_addCell : ByteArray := prog_2_method_6_code
def yX0_addCell : MethodName := ⟨RX0, "addCell", "(III)V"⟩
abbrev cX0_hasCell : ByteArray := prog_2_method_7_code
def yX0_hasCell : MethodName := ⟨RX0, "hasCell", "(II)Z"⟩
abbrev cX0_addHole : ByteArray := prog_2_method_8_code
def yX0_addHole : MethodName := ⟨RX0, "addHole", "(I)I"⟩
def RX1 : String := "TornReeds$Fibres"
def TX1 : u_T := fun k => match k with
  | 0 => ("TornReeds$Fibres", "numbers", "[I", true)
  | _ => ("TornReeds$Fibres", "reached", "[Z", true)
def tyX1 : Nat → FieldType := fun k => match k with
  | 0 => .array .int
  | _ => .array .boolean
abbrev wsX10 : List Cond := u_ws RX1 TX1 2
theorem nmX1 : ∀ a, a < 2 → ∀ b, b < 2 → a ≠ b → (TX1 a).2.1 ≠ (TX1 b).2.1 := by decide +kernel
theorem tyX1_ok : ∀ k, k < 2 → parseFieldDescriptor (TX1 k).2.2.1 = some (tyX1 k) := by decide +kernel
abbrev cX1_init : ByteArray := prog_3_method_1_code
def yX1_init : MethodName := ⟨RX1, "<init>", "(I)V"⟩
abbrev cX1_clear : ByteArray := prog_3_method_2_code
def yX1_clear : MethodName := ⟨RX1, "clear", "()V"⟩
abbrev cX1_told : ByteArray := prog_3_method_3_code
def yX1_told : MethodName := ⟨RX1, "told", "(I)I"⟩
abbrev cX1_worthBeside : ByteArray := prog_3_method_4_code
def yX1_worthBeside : MethodName := ⟨RX1, "worthBeside", "(LTornReeds$Fibres;I)I"⟩
def RX2 : String := "TornReeds$KnownText"
def TX2 : u_T := fun k => match k with
  | 0 => ("TornReeds$KnownText", "letters", "[I", true)
  | _ => ("TornReeds$KnownText", "length", "I", false)
def tyX2 : Nat → FieldType := fun k => match k with
  | 0 => .array .int
  | _ => .int
abbrev wsX20 : List Cond := u_ws RX2 TX2 2
theorem nmX2 : ∀ a, a < 2 → ∀ b, b < 2 → a ≠ b → (TX2 a).2.1 ≠ (TX2 b).2.1 := by decide +kernel
theorem tyX2_ok : ∀ k, k < 2 → parseFieldDescriptor (TX2 k).2.2.1 = some (tyX2 k) := by decide +kernel
abbrev cX2_init : ByteArray := prog_4_method_1_code
def yX2_init : MethodName := ⟨RX2, "<init>", "()V"⟩
abbrev cX2_become : ByteArray := prog_4_method_2_code
def yX2_become : MethodName := ⟨RX2, "become", "(LTornReeds$Tape;)V"⟩
abbrev cX2_countTimes : ByteArray := prog_4_method_3_code
def yX2_countTimes : MethodName := ⟨RX2, "countTimes", "(LTornReeds$Bit;I)I"⟩
abbrev cX2_timeOf : ByteArray := prog_4_method_4_code
def yX2_timeOf : MethodName := ⟨RX2, "timeOf", "(LTornReeds$Bit;II)I"⟩
abbrev cX2_firstShift : ByteArray := prog_4_method_5_code
def yX2_firstShift : MethodName := ⟨RX2, "firstShift", "(LTornReeds$Bit;I)I"⟩
abbrev cX2_standsAt : ByteArray := prog_4_method_6_code
def yX2_standsAt : MethodName := ⟨RX2, "standsAt", "(LTornReeds$Bit;II)Z"⟩
abbrev cX2_agrees : ByteArray := prog_4_method_7_code
def yX2_agrees : MethodName := ⟨RX2, "agrees", "(II)Z"⟩
def RX3 : String := "TornReeds$Lanes"
def TX3 : u_T := fun k => match k with
  | 0 => ("TornReeds$Lanes", "numbers", "[I", true)
  | _ => ("TornReeds$Lanes", "tellers", "[I", true)
def tyX3 : Nat → FieldType := fun k => match k with
  | 0 => .array .int
  | _ => .array .int
abbrev wsX30 : List Cond := u_ws RX3 TX3 2
theorem nmX3 : ∀ a, a < 2 → ∀ b, b < 2 → a ≠ b → (TX3 a).2.1 ≠ (TX3 b).2.1 := by decide +kernel
theorem tyX3_ok : ∀ k, k < 2 → parseFieldDescriptor (TX3 k).2.2.1 = some (tyX3 k) := by decide +kernel
abbrev cX3_init : ByteArray := prog_5_method_1_code
def yX3_init : MethodName := ⟨RX3, "<init>", "(I)V"⟩
abbrev cX3_has : ByteArray := prog_5_method_2_code
def yX3_has : MethodName := ⟨RX3, "has", "(I)Z"⟩
abbrev cX3_worthOf : ByteArray := prog_5_method_3_code
def yX3_worthOf : MethodName := ⟨RX3, "worthOf", "(LTornReeds$Fibres;I)I"⟩
abbrev cX3_change : ByteArray := prog_5_method_4_code
def yX3_change : MethodName := ⟨RX3, "change", "(LTornReeds$Fibres;II)V"⟩
abbrev cX3_pairsWorth : ByteArray := prog_5_method_5_code
def yX3_pairsWorth : MethodName := ⟨RX3, "pairsWorth", "()I"⟩
def RX4 : String := "TornReeds$Pairing"
def TX4 : u_T := fun k => match k with
  | 0 => ("TornReeds$Pairing", "sides", "[I", true)
  | 1 => ("TornReeds$Pairing", "acrossWorth", "[I", true)
  | _ => ("TornReeds$Pairing", "downWorth", "[I", true)
def tyX4 : Nat → FieldType := fun k => match k with
  | 0 => .array .int
  | 1 => .array .int
  | _ => .array .int
abbrev wsX40 : List Cond := u_ws RX4 TX4 3
theorem nmX4 : ∀ a, a < 3 → ∀ b, b < 3 → a ≠ b → (TX4 a).2.1 ≠ (TX4 b).2.1 := by decide +kernel
theorem tyX4_ok : ∀ k, k < 3 → parseFieldDescriptor (TX4 k).2.2.1 = some (tyX4 k) := by decide +kernel
abbrev cX4_init : ByteArray := prog_6_method_1_code
def yX4_init : MethodName := ⟨RX4, "<init>", "()V"⟩
abbrev cX4_compare : ByteArray := prog_6_method_2_code
def yX4_compare : MethodName := ⟨RX4, "compare", "(LTornReeds$Bit;LTornReeds$Bit;)V"⟩
abbrev cX4_countSides : ByteArray := prog_6_method_3_code
def yX4_countSides : MethodName := ⟨RX4, "countSides", "(LTornReeds$Bit;LTornReeds$Bit;II)I"⟩
abbrev cX4_one : ByteArray := prog_6_method_4_code
def yX4_one : MethodName := ⟨RX4, "one", "(Z)I"⟩
abbrev cX4_sidesAt : ByteArray := prog_6_method_5_code
def yX4_sidesAt : MethodName := ⟨RX4, "sidesAt", "(II)I"⟩
abbrev cX4_acrossAt : ByteArray := prog_6_method_6_code
def yX4_acrossAt : MethodName := ⟨RX4, "acrossAt", "(I)I"⟩
abbrev cX4_downAt : ByteArray := prog_6_method_7_code
def yX4_downAt : MethodName := ⟨RX4, "downAt", "(I)I"⟩
abbrev cX4_rowsMeet : ByteArray := prog_6_method_8_code
def yX4_rowsMeet : MethodName := ⟨RX4, "rowsMeet", "(I)Z"⟩
abbrev cX4_columnsMeet : ByteArray := prog_6_method_9_code
def yX4_columnsMeet : MethodName := ⟨RX4, "columnsMeet", "(I)Z"⟩
def RX5 : String := "TornReeds$Places"
def TX5 : u_T := fun k => match k with
  | 0 => ("TornReeds$Places", "rows", "[I", true)
  | 1 => ("TornReeds$Places", "columns", "[I", true)
  | 2 => ("TornReeds$Places", "gains", "[I", true)
  | 3 => ("TornReeds$Places", "touching", "[Z", true)
  | _ => ("TornReeds$Places", "count", "I", false)
def tyX5 : Nat → FieldType := fun k => match k with
  | 0 => .array .int
  | 1 => .array .int
  | 2 => .array .int
  | 3 => .array .boolean
  | _ => .int
abbrev wsX50 : List Cond := u_ws RX5 TX5 5
theorem nmX5 : ∀ a, a < 5 → ∀ b, b < 5 → a ≠ b → (TX5 a).2.1 ≠ (TX5 b).2.1 := by decide +kernel
theorem tyX5_ok : ∀ k, k < 5 → parseFieldDescriptor (TX5 k).2.2.1 = some (tyX5 k) := by decide +kernel
abbrev cX5_init : ByteArray := prog_7_method_1_code
def yX5_init : MethodName := ⟨RX5, "<init>", "()V"⟩
abbrev cX5_collect : ByteArray := prog_7_method_2_code
def yX5_collect : MethodName := ⟨RX5, "collect", "(LTornReeds$Bit;ZLTornReeds$Sheet;LTornReeds$WordList;)V"⟩
abbrev cX5_add : ByteArray := prog_7_method_3_code
def yX5_add : MethodName := ⟨RX5, "add", "(IIIZ)V"⟩
abbrev cX5_best : ByteArray := prog_7_method_4_code
def yX5_best : MethodName := ⟨RX5, "best", "()I"⟩
abbrev cX5_listTouching : ByteArray := prog_7_method_5_code
def yX5_listTouching : MethodName := ⟨RX5, "listTouching", "([I)I"⟩
def RX6 : String := "TornReeds$Roll"
def TX6 : u_T := fun k => match k with
  | 0 => ("TornReeds$Roll", "places", "[I", true)
  | _ => ("TornReeds$Roll", "count", "I", false)
def tyX6 : Nat → FieldType := fun k => match k with
  | 0 => .array .int
  | _ => .int
abbrev wsX60 : List Cond := u_ws RX6 TX6 2
theorem nmX6 : ∀ a, a < 2 → ∀ b, b < 2 → a ≠ b → (TX6 a).2.1 ≠ (TX6 b).2.1 := by decide +kernel
theorem tyX6_ok : ∀ k, k < 2 → parseFieldDescriptor (TX6 k).2.2.1 = some (tyX6 k) := by decide +kernel
abbrev cX6_init : ByteArray := prog_8_method_1_code
def yX6_init : MethodName := ⟨RX6, "<init>", "()V"⟩
abbrev cX6_bore : ByteArray := prog_8_method_2_code
def yX6_bore : MethodName := ⟨RX6, "bore", "(II)V"⟩
abbrev cX6_stoodBy : ByteArray := prog_8_method_3_code
def yX6_stoodBy : MethodName := ⟨RX6, "stoodBy", "(LTornReeds$Bit;I)Z"⟩
abbrev cX6_countPlaces : ByteArray := prog_8_method_4_code
def yX6_countPlaces : MethodName := ⟨RX6, "countPlaces", "(LTornReeds$Bit;)I"⟩
abbrev cX6_placeOf : ByteArray := prog_8_method_5_code
def yX6_placeOf : MethodName := ⟨RX6, "placeOf", "(LTornReeds$Bit;I)I"⟩
def RX7 : String := "TornReeds$Search"
def TX7 : u_T := fun k => match k with
  | 0 => ("TornReeds$Search", "firstPlaces", "LTornReeds$Places;", true)
  | 1 => ("TornReeds$Search", "secondPlaces", "LTornReeds$Places;", true)
  | 2 => ("TornReeds$Search", "touched", "[I", true)
  | 3 => ("TornReeds$Search", "pairing", "LTornReeds$Pairing;", true)
  | 4 => ("TornReeds$Search", "bestGain", "I", false)
  | 5 => ("TornReeds$Search", "bestFirst", "I", false)
  | _ => ("TornReeds$Search", "bestSecond", "I", false)
def tyX7 : Nat → FieldType := fun k => match k with
  | 0 => .object "TornReeds$Places"
  | 1 => .object "TornReeds$Places"
  | 2 => .array .int
  | 3 => .object "TornReeds$Pairing"
  | 4 => .int
  | 5 => .int
  | _ => .int
abbrev wsX70 : List Cond := u_ws RX7 TX7 7
theorem nmX7 : ∀ a, a < 7 → ∀ b, b < 7 → a ≠ b → (TX7 a).2.1 ≠ (TX7 b).2.1 := by decide +kernel
theorem tyX7_ok : ∀ k, k < 7 → parseFieldDescriptor (TX7 k).2.2.1 = some (tyX7 k) := by decide +kernel
abbrev cX7_init : ByteArray := prog_9_method_1_code
def yX7_init : MethodName := ⟨RX7, "<init>", "()V"⟩
abbrev cX7_countAlone : ByteArray := prog_9_method_2_code
def yX7_countAlone : MethodName := ⟨RX7, "countAlone", "(LTornReeds$Bit;LTornReeds$Sheet;LTornReeds$WordList;)I"⟩
abbrev cX7_joinAlone : ByteArray := prog_9_method_3_code
def yX7_joinAlone : MethodName := ⟨RX7, "joinAlone", "(LTornReeds$Bit;LTornReeds$Sheet;LTornReeds$WordList;)Z"⟩
abbrev cX7_joinBoth : ByteArray := prog_9_method_4_code
def yX7_joinBoth : MethodName := ⟨RX7, "joinBoth", "(LTornReeds$Bit;LTornReeds$Bit;LTornReeds$Sheet;LTornReeds$WordList;)Z"⟩
abbrev cX7_weigh : ByteArray := prog_9_method_5_code
def yX7_weigh : MethodName := ⟨RX7, "weigh", "(LTornReeds$Bit;ILTornReeds$Bit;ILTornReeds$Sheet;LTornReeds$WordList;)V"⟩
abbrev cX7_gainOf : ByteArray := prog_9_method_6_code
def yX7_gainOf : MethodName := ⟨RX7, "gainOf", "(II)I"⟩
def RX8 : String := "TornReeds$Sheet"
def TX8 : u_T := fun k => match k with
  | 0 => ("TornReeds$Sheet", "signs", "[I", true)
  | 1 => ("TornReeds$Sheet", "owners", "[I", true)
  | 2 => ("TornReeds$Sheet", "across", "LTornReeds$Lanes;", true)
  | 3 => ("TornReeds$Sheet", "down", "LTornReeds$Lanes;", true)
  | _ => ("TornReeds$Sheet", "lying", "I", false)
def tyX8 : Nat → FieldType := fun k => match k with
  | 0 => .array .int
  | 1 => .array .int
  | 2 => .object "TornReeds$Lanes"
  | 3 => .object "TornReeds$Lanes"
  | _ => .int
abbrev wsX80 : List Cond := u_ws RX8 TX8 5
theorem nmX8 : ∀ a, a < 5 → ∀ b, b < 5 → a ≠ b → (TX8 a).2.1 ≠ (TX8 b).2.1 := by decide +kernel
theorem tyX8_ok : ∀ k, k < 5 → parseFieldDescriptor (TX8 k).2.2.1 = some (tyX8 k) := by decide +kernel
abbrev cX8_init : ByteArray := prog_10_method_1_code
def yX8_init : MethodName := ⟨RX8, "<init>", "()V"⟩
abbrev cX8_isInside : ByteArray := prog_10_method_2_code
def yX8_isInside : MethodName := ⟨RX8, "isInside", "(II)Z"⟩
abbrev cX8_signAt : ByteArray := prog_10_method_3_code
def yX8_signAt : MethodName := ⟨RX8, "signAt", "(II)I"⟩
abbrev cX8_ownerAt : ByteArray := prog_10_method_4_code
def yX8_ownerAt : MethodName := ⟨RX8, "ownerAt", "(II)I"⟩
abbrev cX8_hasRoom : ByteArray := prog_10_method_5_code
def yX8_hasRoom : MethodName := ⟨RX8, "hasRoom", "(LTornReeds$Bit;II)Z"⟩
abbrev cX8_fibreWorth : ByteArray := prog_10_method_6_code
def yX8_fibreWorth : MethodName := ⟨RX8, "fibreWorth", "(LTornReeds$Bit;II)I"⟩
abbrev cX8_sidesOf : ByteArray := prog_10_method_7_code
def yX8_sidesOf : MethodName := ⟨RX8, "sidesOf", "(LTornReeds$Bit;II)I"⟩
abbrev cX8_taken : ByteArray := prog_10_method_8_code
def yX8_taken : MethodName := ⟨RX8, "taken", "(II)I"⟩
abbrev cX8_allRunsCan : ByteArray := prog_10_method_9_code
def yX8_allRunsCan : MethodName := ⟨RX8, "allRunsCan", "(LTornReeds$WordList;)Z"⟩
abbrev cX8_runsCanWith : ByteArray := prog_10_method_10_code
def yX8_runsCanWith : MethodName := ⟨RX8, "runsCanWith", "(LTornReeds$Bit;IILTornReeds$WordList;)Z"⟩
abbrev cX8_runsCan : ByteArray := prog_10_method_11_code
def yX8_runsCan : MethodName := ⟨RX8, "runsCan", "(IIILTornReeds$WordList;)Z"⟩
abbrev cX8_startOfRun : ByteArray := prog_10_method_12_code
def yX8_startOfRun : MethodName := ⟨RX8, "startOfRun", "(II)I"⟩
abbrev cX8_followRun : ByteArray := prog_10_method_13_code
def yX8_followRun : MethodName := ⟨RX8, "followRun", "(IILTornReeds$WordList;)V"⟩
abbrev cX8_wholeWorth : ByteArray := prog_10_method_14_code
def yX8_wholeWorth : MethodName := ⟨RX8, "wholeWorth", "()I"⟩
abbrev cX8_meet : ByteArray := prog_10_method_15_code
def yX8_meet : MethodName := ⟨RX8, "meet", "(II)I"⟩
abbrev cX8_write : ByteArray := prog_10_method_16_code
def yX8_write : MethodName := ⟨RX8, "write", "(LTornReeds$Bit;II)V"⟩
abbrev cX8_wipe : ByteArray := prog_10_method_17_code
def yX8_wipe : MethodName := ⟨RX8, "wipe", "(LTornReeds$Bit;II)V"⟩
abbrev cX8_put : ByteArray := prog_10_method_18_code
def yX8_put : MethodName := ⟨RX8, "put", "(LTornReeds$Bit;II)V"⟩
abbrev cX8_remove : ByteArray := prog_10_method_19_code
def yX8_remove : MethodName := ⟨RX8, "remove", "(LTornReeds$Bit;)V"⟩
abbrev cX8_own : ByteArray := prog_10_method_20_code
def yX8_own : MethodName := ⟨RX8, "own", "(LTornReeds$Bit;III)V"⟩
def RX9 : String := "TornReeds$Tape"
def TX9 : u_T := fun k => match k with
  | 0 => ("TornReeds$Tape", "bytes", "[I", true)
  | _ => ("TornReeds$Tape", "length", "I", false)
def tyX9 : Nat → FieldType := fun k => match k with
  | 0 => .array .int
  | _ => .int
abbrev wsX90 : List Cond := u_ws RX9 TX9 2
theorem nmX9 : ∀ a, a < 2 → ∀ b, b < 2 → a ≠ b → (TX9 a).2.1 ≠ (TX9 b).2.1 := by decide +kernel
theorem tyX9_ok : ∀ k, k < 2 → parseFieldDescriptor (TX9 k).2.2.1 = some (tyX9 k) := by decide +kernel
abbrev cX9_init : ByteArray := prog_11_method_1_code
def yX9_init : MethodName := ⟨RX9, "<init>", "()V"⟩
abbrev cX9_append : ByteArray := prog_11_method_2_code
def yX9_append : MethodName := ⟨RX9, "append", "(I)V"⟩
abbrev cX9_isLetters : ByteArray := prog_11_method_3_code
def yX9_isLetters : MethodName := ⟨RX9, "isLetters", "(I)Z"⟩
def RX10 : String := "TornReeds$WordList"
def TX10 : u_T := fun k => match k with
  | 0 => ("TornReeds$WordList", "count", "I", false)
  | 1 => ("TornReeds$WordList", "letters", "[[J", true)
  | 2 => ("TornReeds$WordList", "starts", "[J", true)
  | 3 => ("TornReeds$WordList", "ends", "[J", true)
  | 4 => ("TornReeds$WordList", "expected", "[J", true)
  | _ => ("TornReeds$WordList", "matched", "[J", true)
def tyX10 : Nat → FieldType := fun k => match k with
  | 0 => .int
  | 1 => .array (.array .long)
  | 2 => .array .long
  | 3 => .array .long
  | 4 => .array .long
  | _ => .array .long
abbrev wsX100 : List Cond := u_ws RX10 TX10 6
theorem nmX10 : ∀ a, a < 6 → ∀ b, b < 6 → a ≠ b → (TX10 a).2.1 ≠ (TX10 b).2.1 := by decide +kernel
theorem tyX10_ok : ∀ k, k < 6 → parseFieldDescriptor (TX10 k).2.2.1 = some (tyX10 k) := by decide +kernel
abbrev cX10_init : ByteArray := prog_12_method_1_code
def yX10_init : MethodName := ⟨RX10, "<init>", "()V"⟩
abbrev cX10_append : ByteArray := prog_12_method_2_code
def yX10_append : MethodName := ⟨RX10, "append", "(LTornReeds$Tape;)V"⟩
abbrev cX10_indexOf : ByteArray := prog_12_method_3_code
def yX10_indexOf : MethodName := ⟨RX10, "indexOf", "(I)I"⟩
abbrev cX10_beginRun : ByteArray := prog_12_method_4_code
def yX10_beginRun : MethodName := ⟨RX10, "beginRun", "(Z)V"⟩
abbrev cX10_nextSign : ByteArray := prog_12_method_5_code
def yX10_nextSign : MethodName := ⟨RX10, "nextSign", "(I)V"⟩
abbrev cX10_endRun : ByteArray := prog_12_method_6_code
def yX10_endRun : MethodName := ⟨RX10, "endRun", "(Z)V"⟩
abbrev cX10_canBeSome : ByteArray := prog_12_method_7_code
def yX10_canBeSome : MethodName := ⟨RX10, "canBeSome", "()Z"⟩
abbrev cX10_canBe : ByteArray := prog_12_method_8_code
def yX10_canBe : MethodName := ⟨RX10, "canBe", "(I)Z"⟩
def RX11 : String := "TornReeds"
def TX11 : u_T := fun k => match k with
  | 0 => ("TornReeds", "tape", "LTornReeds$Tape;", true)
  | 1 => ("TornReeds", "bits", "[LTornReeds$Bit;", true)
  | 2 => ("TornReeds", "list", "LTornReeds$WordList;", true)
  | 3 => ("TornReeds", "papyrus", "LTornReeds$Sheet;", true)
  | 4 => ("TornReeds", "search", "LTornReeds$Search;", true)
  | 5 => ("TornReeds", "worms", "LTornReeds$Roll;", true)
  | _ => ("TornReeds", "text", "LTornReeds$KnownText;", true)
def tyX11 : Nat → FieldType := fun k => match k with
  | 0 => .object "TornReeds$Tape"
  | 1 => .array (.object "TornReeds$Bit")
  | 2 => .object "TornReeds$WordList"
  | 3 => .object "TornReeds$Sheet"
  | 4 => .object "TornReeds$Search"
  | 5 => .object "TornReeds$Roll"
  | _ => .object "TornReeds$KnownText"
abbrev wsX110 : List Cond := u_ws RX11 TX11 7
theorem nmX11 : ∀ a, a < 7 → ∀ b, b < 7 → a ≠ b → (TX11 a).2.1 ≠ (TX11 b).2.1 := by decide +kernel
theorem tyX11_ok : ∀ k, k < 7 → parseFieldDescriptor (TX11 k).2.2.1 = some (tyX11 k) := by decide +kernel
abbrev cX11_init : ByteArray := prog_1_method_1_code
def yX11_init : MethodName := ⟨RX11, "<init>", "()V"⟩
abbrev cX11_feed : ByteArray := prog_1_method_2_code
def yX11_feed : MethodName := ⟨RX11, "feed", "(IIIII)I"⟩
abbrev cX11_end : ByteArray := prog_1_method_3_code
def yX11_end : MethodName := ⟨RX11, "end", "(I)Z"⟩
abbrev cX11_bit : ByteArray := prog_1_method_4_code
def yX11_bit : MethodName := ⟨RX11, "bit", "(I)I"⟩
abbrev cX11_cell : ByteArray := prog_1_method_5_code
def yX11_cell : MethodName := ⟨RX11, "cell", "(III)I"⟩
abbrev cX11_fibre : ByteArray := prog_1_method_6_code
def yX11_fibre : MethodName := ⟨RX11, "fibre", "(IZII)I"⟩
abbrev cX11_word : ByteArray := prog_1_method_7_code
def yX11_word : MethodName := ⟨RX11, "word", "()I"⟩
abbrev cX11_lay : ByteArray := prog_1_method_8_code
def yX11_lay : MethodName := ⟨RX11, "lay", "(III)Z"⟩
abbrev cX11_take : ByteArray := prog_1_method_9_code
def yX11_take : MethodName := ⟨RX11, "take", "(I)Z"⟩
abbrev cX11_place : ByteArray := prog_1_method_10_code
def yX11_place : MethodName := ⟨RX11, "place", "(II)I"⟩
abbrev cX11_sheet : ByteArray := prog_1_method_11_code
def yX11_sheet : MethodName := ⟨RX11, "sheet", "(II)I"⟩
abbrev cX11_whose : ByteArray := prog_1_method_12_code
def yX11_whose : MethodName := ⟨RX11, "whose", "(II)I"⟩
abbrev cX11_words : ByteArray := prog_1_method_13_code
def yX11_words : MethodName := ⟨RX11, "words", "(II)I"⟩
abbrev cX11_read : ByteArray := prog_1_method_14_code
def yX11_read : MethodName := ⟨RX11, "read", "(III)I"⟩
abbrev cX11_worth : ByteArray := prog_1_method_15_code
def yX11_worth : MethodName := ⟨RX11, "worth", "()I"⟩
abbrev cX11_join : ByteArray := prog_1_method_16_code
def yX11_join : MethodName := ⟨RX11, "join", "(II)I"⟩
abbrev cX11_joins : ByteArray := prog_1_method_17_code
def yX11_joins : MethodName := ⟨RX11, "joins", "(I)I"⟩
abbrev cX11_roll : ByteArray := prog_1_method_18_code
def yX11_roll : MethodName := ⟨RX11, "roll", "(II)I"⟩
abbrev cX11_hole : ByteArray := prog_1_method_19_code
def yX11_hole : MethodName := ⟨RX11, "hole", "(II)I"⟩
abbrev cX11_stood : ByteArray := prog_1_method_20_code
def yX11_stood : MethodName := ⟨RX11, "stood", "(I)I"⟩
abbrev cX11_standing : ByteArray := prog_1_method_21_code
def yX11_standing : MethodName := ⟨RX11, "standing", "(II)I"⟩
abbrev cX11_known : ByteArray := prog_1_method_22_code
def yX11_known : MethodName := ⟨RX11, "known", "()I"⟩
abbrev cX11_stands : ByteArray := prog_1_method_23_code
def yX11_stands : MethodName := ⟨RX11, "stands", "(II)I"⟩
abbrev cX11_letter : ByteArray := prog_1_method_24_code
def yX11_letter : MethodName := ⟨RX11, "letter", "(III)I"⟩
abbrev cX11_width : ByteArray := prog_1_method_25_code
def yX11_width : MethodName := ⟨RX11, "width", "(III)I"⟩
abbrev cX11_bitOf : ByteArray := prog_1_method_26_code
def yX11_bitOf : MethodName := ⟨RX11, "bitOf", "(I)LTornReeds$Bit;"⟩
abbrev cX11_looseBit : ByteArray := prog_1_method_27_code
def yX11_looseBit : MethodName := ⟨RX11, "looseBit", "(I)LTornReeds$Bit;"⟩
abbrev cX11_isWidth : ByteArray := prog_1_method_28_code
def yX11_isWidth : MethodName := ⟨RX11, "isWidth", "(I)Z"⟩
abbrev cX11_isLetter : ByteArray := prog_1_method_29_code
def yX11_isLetter : MethodName := ⟨RX11, "isLetter", "(I)Z"⟩
abbrev cX11_isText : ByteArray := prog_1_method_30_code
def yX11_isText : MethodName := ⟨RX11, "isText", "(I)Z"⟩
def RX12 : String := "TornReedsModel"
def TX12 : u_T := fun k => match k with
  | 0 => ("TornReedsModel", "tape", "[I", true)
  | 1 => ("TornReedsModel", "taped", "I", false)
  | 2 => ("TornReedsModel", "isBit", "[Z", true)
  | 3 => ("TornReedsModel", "cells", "[I", true)
  | 4 => ("TornReedsModel", "across", "[I", true)
  | 5 => ("TornReedsModel", "down", "[I", true)
  | 6 => ("TornReedsModel", "lies", "[Z", true)
  | 7 => ("TornReedsModel", "lieRow", "[I", true)
  | 8 => ("TornReedsModel", "lieColumn", "[I", true)
  | 9 => ("TornReedsModel", "holes", "[I", true)
  | 10 => ("TornReedsModel", "holeAt", "[I", true)
  | 11 => ("TornReedsModel", "read", "[I", true)
  | 12 => ("TornReedsModel", "words", "I", false)
  | 13 => ("TornReedsModel", "size", "[I", true)
  | 14 => ("TornReedsModel", "letter", "[I", true)
  | 15 => ("TornReedsModel", "signs", "[I", true)
  | 16 => ("TornReedsModel", "owner", "[I", true)
  | 17 => ("TornReedsModel", "runFrom", "I", false)
  | 18 => ("TornReedsModel", "runEnd", "I", false)
  | 19 => ("TornReedsModel", "closedAhead", "Z", false)
  | 20 => ("TornReedsModel", "closedBehind", "Z", false)
  | 21 => ("TornReedsModel", "bestWorth", "I", false)
  | 22 => ("TornReedsModel", "bestA", "I", false)
  | 23 => ("TornReedsModel", "bestB", "I", false)
  | 24 => ("TornReedsModel", "early", "[I", true)
  | 25 => ("TornReedsModel", "rollHoles", "I", false)
  | 26 => ("TornReedsModel", "roll", "[I", true)
  | 27 => ("TornReedsModel", "counted", "I", false)
  | 28 => ("TornReedsModel", "knownSize", "I", false)
  | _ => ("TornReedsModel", "text", "[I", true)
def tyX12 : Nat → FieldType := fun k => match k with
  | 0 => .array .int
  | 1 => .int
  | 2 => .array .boolean
  | 3 => .array .int
  | 4 => .array .int
  | 5 => .array .int
  | 6 => .array .boolean
  | 7 => .array .int
  | 8 => .array .int
  | 9 => .array .int
  | 10 => .array .int
  | 11 => .array .int
  | 12 => .int
  | 13 => .array .int
  | 14 => .array .int
  | 15 => .array .int
  | 16 => .array .int
  | 17 => .int
  | 18 => .int
  | 19 => .boolean
  | 20 => .boolean
  | 21 => .int
  | 22 => .int
  | 23 => .int
  | 24 => .array .int
  | 25 => .int
  | 26 => .array .int
  | 27 => .int
  | 28 => .int
  | _ => .array .int
abbrev wsX120 : List Cond := u_ws RX12 TX12 30
theorem nmX12 : ∀ a, a < 30 → ∀ b, b < 30 → a ≠ b → (TX12 a).2.1 ≠ (TX12 b).2.1 := by decide +kernel
theorem tyX12_ok : ∀ k, k < 30 → parseFieldDescriptor (TX12 k).2.2.1 = some (tyX12 k) := by decide +kernel
abbrev cX12_init : ByteArray := prog_14_method_1_code
def yX12_init : MethodName := ⟨RX12, "<init>", "()V"⟩
abbrev cX12_feed : ByteArray := prog_14_method_2_code
def yX12_feed : MethodName := ⟨RX12, "feed", "(IIIII)I"⟩
abbrev cX12_end : ByteArray := prog_14_method_3_code
def yX12_end : MethodName := ⟨RX12, "end", "(I)Z"⟩
abbrev cX12_isIn : ByteArray := prog_14_method_4_code
def yX12_isIn : MethodName := ⟨RX12, "isIn", "(III)Z"⟩
abbrev cX12_isLetter : ByteArray := prog_14_method_5_code
def yX12_isLetter : MethodName := ⟨RX12, "isLetter", "(I)Z"⟩
abbrev cX12_isBit : ByteArray := prog_14_method_6_code
def yX12_isBit : MethodName := ⟨RX12, "isBit", "(I)Z"⟩
abbrev cX12_reads : ByteArray := prog_14_method_7_code
def yX12_reads : MethodName := ⟨RX12, "reads", "(I)I"⟩
abbrev cX12_bit : ByteArray := prog_14_method_8_code
def yX12_bit : MethodName := ⟨RX12, "bit", "(I)I"⟩
abbrev cX12_cell : ByteArray := prog_14_method_9_code
def yX12_cell : MethodName := ⟨RX12, "cell", "(III)I"⟩
abbrev cX12_fibre : ByteArray := prog_14_method_10_code
def yX12_fibre : MethodName := ⟨RX12, "fibre", "(IZII)I"⟩
abbrev cX12_word : ByteArray := prog_14_method_11_code
def yX12_word : MethodName := ⟨RX12, "word", "()I"⟩
abbrev cX12_at : ByteArray := prog_14_method_12_code
def yX12_at : MethodName := ⟨RX12, "at", "(III)I"⟩
abbrev cX12_lays : ByteArray := prog_14_method_13_code
def yX12_lays : MethodName := ⟨RX12, "lays", "(I)Z"⟩
abbrev cX12_laysAll : ByteArray := prog_14_method_14_code
def yX12_laysAll : MethodName := ⟨RX12, "laysAll", "()Z"⟩
abbrev cX12_hasInRow : ByteArray := prog_14_method_15_code
def yX12_hasInRow : MethodName := ⟨RX12, "hasInRow", "(II)Z"⟩
abbrev cX12_hasInColumn : ByteArray := prog_14_method_16_code
def yX12_hasInColumn : MethodName := ⟨RX12, "hasInColumn", "(II)Z"⟩
abbrev cX12_acrossOf : ByteArray := prog_14_method_17_code
def yX12_acrossOf : MethodName := ⟨RX12, "acrossOf", "(III)I"⟩
abbrev cX12_downOf : ByteArray := prog_14_method_18_code
def yX12_downOf : MethodName := ⟨RX12, "downOf", "(III)I"⟩
abbrev cX12_quarrel : ByteArray := prog_14_method_19_code
def yX12_quarrel : MethodName := ⟨RX12, "quarrel", "(II)Z"⟩
abbrev cX12_isInk : ByteArray := prog_14_method_20_code
def yX12_isInk : MethodName := ⟨RX12, "isInk", "(I)Z"⟩
abbrev cX12_runAt : ByteArray := prog_14_method_21_code
def yX12_runAt : MethodName := ⟨RX12, "runAt", "(II)V"⟩
abbrev cX12_isFrom : ByteArray := prog_14_method_22_code
def yX12_isFrom : MethodName := ⟨RX12, "isFrom", "(II)Z"⟩
abbrev cX12_canBe : ByteArray := prog_14_method_23_code
def yX12_canBe : MethodName := ⟨RX12, "canBe", "(I)Z"⟩
abbrev cX12_canAny : ByteArray := prog_14_method_24_code
def yX12_canAny : MethodName := ⟨RX12, "canAny", "()Z"⟩
abbrev cX12_runsCan : ByteArray := prog_14_method_25_code
def yX12_runsCan : MethodName := ⟨RX12, "runsCan", "()Z"⟩
abbrev cX12_mayLie : ByteArray := prog_14_method_26_code
def yX12_mayLie : MethodName := ⟨RX12, "mayLie", "()Z"⟩
abbrev cX12_puts : ByteArray := prog_14_method_27_code
def yX12_puts : MethodName := ⟨RX12, "puts", "(III)V"⟩
abbrev cX12_lay : ByteArray := prog_14_method_28_code
def yX12_lay : MethodName := ⟨RX12, "lay", "(III)Z"⟩
abbrev cX12_take : ByteArray := prog_14_method_29_code
def yX12_take : MethodName := ⟨RX12, "take", "(I)Z"⟩
abbrev cX12_place : ByteArray := prog_14_method_30_code
def yX12_place : MethodName := ⟨RX12, "place", "(II)I"⟩
abbrev cX12_isPlace : ByteArray := prog_14_method_31_code
def yX12_isPlace : MethodName := ⟨RX12, "isPlace", "(II)Z"⟩
abbrev cX12_sheet : ByteArray := prog_14_method_32_code
def yX12_sheet : MethodName := ⟨RX12, "sheet", "(II)I"⟩
abbrev cX12_whose : ByteArray := prog_14_method_33_code
def yX12_whose : MethodName := ⟨RX12, "whose", "(II)I"⟩
abbrev cX12_hasRun : ByteArray := prog_14_method_34_code
def yX12_hasRun : MethodName := ⟨RX12, "hasRun", "(II)Z"⟩
abbrev cX12_words : ByteArray := prog_14_method_35_code
def yX12_words : MethodName := ⟨RX12, "words", "(II)I"⟩
abbrev cX12_read : ByteArray := prog_14_method_36_code
def yX12_read : MethodName := ⟨RX12, "read", "(III)I"⟩
abbrev cX12_sides : ByteArray := prog_14_method_37_code
def yX12_sides : MethodName := ⟨RX12, "sides", "(II)I"⟩
abbrev cX12_worthOf : ByteArray := prog_14_method_38_code
def yX12_worthOf : MethodName := ⟨RX12, "worthOf", "(II)I"⟩
abbrev cX12_worthNow : ByteArray := prog_14_method_39_code
def yX12_worthNow : MethodName := ⟨RX12, "worthNow", "()I"⟩
abbrev cX12_worth : ByteArray := prog_14_method_40_code
def yX12_worth : MethodName := ⟨RX12, "worth", "()I"⟩
abbrev cX12_rowOf : ByteArray := prog_14_method_42_code
def yX12_rowOf : MethodName := ⟨RX12, "rowOf", "(I)I"⟩
abbrev cX12_columnOf : ByteArray := prog_14_method_43_code
def yX12_columnOf : MethodName := ⟨RX12, "columnOf", "(I)I"⟩
abbrev cX12_fits : ByteArray := prog_14_method_44_code
def yX12_fits : MethodName := ⟨RX12, "fits", "(I)I"⟩
abbrev cX12_anyLies : ByteArray := prog_14_method_45_code
def yX12_anyLies : MethodName := ⟨RX12, "anyLies", "()Z"⟩
abbrev cX12_notesEarly : ByteArray := prog_14_method_46_code
def yX12_notesEarly : MethodName := ⟨RX12, "notesEarly", "()V"⟩
abbrev cX12_isNext : ByteArray := prog_14_method_47_code
def yX12_isNext : MethodName := ⟨RX12, "isNext", "(I)Z"⟩
abbrev cX12_holds : ByteArray := prog_14_method_48_code
def yX12_holds : MethodName := ⟨RX12, "holds", "(IIII)V"⟩
abbrev cX12_tries : ByteArray := prog_14_method_49_code
def yX12_tries : MethodName := ⟨RX12, "tries", "(II)I"⟩
abbrev cX12_seconds : ByteArray := prog_14_method_50_code
def yX12_seconds : MethodName := ⟨RX12, "seconds", "(IIII)V"⟩
abbrev cX12_mayTouch : ByteArray := prog_14_method_51_code
def yX12_mayTouch : MethodName := ⟨RX12, "mayTouch", "(IIII)Z"⟩
abbrev cX12_mayJoin : ByteArray := prog_14_method_52_code
def yX12_mayJoin : MethodName := ⟨RX12, "mayJoin", "(I)Z"⟩
abbrev cX12_join : ByteArray := prog_14_method_53_code
def yX12_join : MethodName := ⟨RX12, "join", "(II)I"⟩
abbrev cX12_joins : ByteArray := prog_14_method_54_code
def yX12_joins : MethodName := ⟨RX12, "joins", "(I)I"⟩
abbrev cX12_roll : ByteArray := prog_14_method_55_code
def yX12_roll : MethodName := ⟨RX12, "roll", "(II)I"⟩
abbrev cX12_hole : ByteArray := prog_14_method_56_code
def yX12_hole : MethodName := ⟨RX12, "hole", "(II)I"⟩
abbrev cX12_stoodAt : ByteArray := prog_14_method_57_code
def yX12_stoodAt : MethodName := ⟨RX12, "stoodAt", "(II)Z"⟩
abbrev cX12_stoods : ByteArray := prog_14_method_58_code
def yX12_stoods : MethodName := ⟨RX12, "stoods", "(II)I"⟩
abbrev cX12_mayStand : ByteArray := prog_14_method_59_code
def yX12_mayStand : MethodName := ⟨RX12, "mayStand", "(I)Z"⟩
abbrev cX12_stood : ByteArray := prog_14_method_60_code
def yX12_stood : MethodName := ⟨RX12, "stood", "(I)I"⟩
abbrev cX12_standing : ByteArray := prog_14_method_61_code
def yX12_standing : MethodName := ⟨RX12, "standing", "(II)I"⟩
abbrev cX12_known : ByteArray := prog_14_method_62_code
def yX12_known : MethodName := ⟨RX12, "known", "()I"⟩
abbrev cX12_floor : ByteArray := prog_14_method_63_code
def yX12_floor : MethodName := ⟨RX12, "floor", "(II)I"⟩
abbrev cX12_standsAt : ByteArray := prog_14_method_64_code
def yX12_standsAt : MethodName := ⟨RX12, "standsAt", "(III)Z"⟩
abbrev cX12_standsBy : ByteArray := prog_14_method_65_code
def yX12_standsBy : MethodName := ⟨RX12, "standsBy", "(III)I"⟩
abbrev cX12_hasInk : ByteArray := prog_14_method_66_code
def yX12_hasInk : MethodName := ⟨RX12, "hasInk", "(I)Z"⟩
abbrev cX12_stands : ByteArray := prog_14_method_67_code
def yX12_stands : MethodName := ⟨RX12, "stands", "(II)I"⟩
abbrev cX12_letter : ByteArray := prog_14_method_68_code
def yX12_letter : MethodName := ⟨RX12, "letter", "(III)I"⟩
abbrev cX12_width : ByteArray := prog_14_method_69_code
def yX12_width : MethodName := ⟨RX12, "width", "(III)I"⟩
def RJ9 : String := "java/lang/Math"
def TJ9 : u_T := fun k => match k with
  | _ => ("", "", "", false)
def tyJ9 : Nat → FieldType := fun k => match k with
  | _ => .int
abbrev wsJ90 : List Cond := u_ws RJ9 TJ9 0
theorem nmJ9 : ∀ a, a < 0 → ∀ b, b < 0 → a ≠ b → (TJ9 a).2.1 ≠ (TJ9 b).2.1 := by decide +kernel
theorem tyJ9_ok : ∀ k, k < 0 → parseFieldDescriptor (TJ9 k).2.2.1 = some (tyJ9 k) := by decide +kernel
abbrev cJ9_floorMod_7cf53 : ByteArray := prog_15_method_50_code
def yJ9_floorMod_7cf53 : MethodName := ⟨RJ9, "floorMod", "(II)I"⟩
abbrev cJ9_max_7cf53 : ByteArray := prog_15_method_65_code
def yJ9_max_7cf53 : MethodName := ⟨RJ9, "max", "(II)I"⟩
def RJ10 : String := "java/lang/System"
def TJ10 : u_T := fun k => match k with
  | _ => ("", "", "", false)
def tyJ10 : Nat → FieldType := fun k => match k with
  | _ => .int
abbrev wsJ100 : List Cond := u_ws RJ10 TJ10 0
theorem nmJ10 : ∀ a, a < 0 → ∀ b, b < 0 → a ≠ b → (TJ10 a).2.1 ≠ (TJ10 b).2.1 := by decide +kernel
theorem tyJ10_ok : ∀ k, k < 0 → parseFieldDescriptor (TJ10 k).2.2.1 = some (tyJ10 k) := by decide +kernel
def RL : String := "TornReedsLaw"
abbrev cL_law : ByteArray := code
def yL_law : MethodName := ⟨RL, "law", "([I)Z"⟩
abbrev vwCl : List vw_C := [(RX0, TX0, 16), (RX1, TX1, 2), (RX2, TX2, 2), (RX3, TX3, 2), (RX4, TX4, 3), (RX5, TX5, 5), (RX6, TX6, 2), (RX7, TX7, 7), (RX8, TX8, 5), (RX9, TX9, 2), (RX10, TX10, 6), (RX11, TX11, 7), (RX12, TX12, 30)]
end
section
/-! THE MACHINE IN ONE MEMORY. Cells have numbers (ids, in the order in which they are made); zM: ints, longs, references by (id, place), and how many cells there are. -/
abbrev zM : Type := (Nat → Nat → Int32) × (Nat → Nat → Int64) × (Nat → Nat → Option Nat) × Nat
abbrev zS : Type := Nat ⊕ (FieldType × Nat)
def zm_T (ci k : Nat) : FieldType := match ci with
  | 0 => tyX0 k | 1 => tyX1 k | 2 => tyX2 k | 3 => tyX3 k | 4 => tyX4 k | 5 => tyX5 k | 6 => tyX6 k | 7 => tyX7 k | 8 => tyX8 k | 9 => tyX9 k | 10 => tyX10 k | 11 => tyX11 k | _ => tyX12 k
def zm_N (ci : Nat) : Nat := match ci with
  | 0 => 16 | 1 => 2 | 2 => 2 | 3 => 2 | 4 => 3 | 5 => 5 | 6 => 2 | 7 => 7 | 8 => 5 | 9 => 2 | 10 => 6 | 11 => 7 | _ => 30
def zm_C (ci : Nat) : String := match ci with
  | 0 => RX0 | 1 => RX1 | 2 => RX2 | 3 => RX3 | 4 => RX4 | 5 => RX5 | 6 => RX6 | 7 => RX7 | 8 => RX8 | 9 => RX9 | 10 => RX10 | 11 => RX11 | _ => RX12
def zm_F (ci : Nat) : u_T := match ci with
  | 0 => TX0 | 1 => TX1 | 2 => TX2 | 3 => TX3 | 4 => TX4 | 5 => TX5 | 6 => TX6 | 7 => TX7 | 8 => TX8 | 9 => TX9 | 10 => TX10 | 11 => TX11 | _ => TX12
theorem zm_cl {ci : Nat} (h : ci < 13) : vwCl[ci]? = some (zm_C ci, zm_F ci, zm_N ci) := by
  match ci, h with
  | 0, _ => rfl
  | 1, _ => rfl
  | 2, _ => rfl
  | 3, _ => rfl
  | 4, _ => rfl
  | 5, _ => rfl
  | 6, _ => rfl
  | 7, _ => rfl
  | 8, _ => rfl
  | 9, _ => rfl
  | 10, _ => rfl
  | 11, _ => rfl
  | 12, _ => rfl
theorem zm_tyok {ci : Nat} (h : ci < 13) : ∀ k, k < zm_N ci → parseFieldDescriptor (zm_F ci k).2.2.1 = some (zm_T ci k) := by
  match ci, h with
  | 0, _ => exact tyX0_ok
  | 1, _ => exact tyX1_ok
  | 2, _ => exact tyX2_ok
  | 3, _ => exact tyX3_ok
  | 4, _ => exact tyX4_ok
  | 5, _ => exact tyX5_ok
  | 6, _ => exact tyX6_ok
  | 7, _ => exact tyX7_ok
  | 8, _ => exact tyX8_ok
  | 9, _ => exact tyX9_ok
  | 10, _ => exact tyX10_ok
  | 11, _ => exact tyX11_ok
  | 12, _ => exact tyX12_ok
theorem zm_nm {ci : Nat} (h : ci < 13) : ∀ a, a < zm_N ci → ∀ b, b < zm_N ci → a ≠ b → (zm_F ci a).2.1 ≠ (zm_F ci b).2.1 := by
  match ci, h with
  | 0, _ => exact nmX0
  | 1, _ => exact nmX1
  | 2, _ => exact nmX2
  | 3, _ => exact nmX3
  | 4, _ => exact nmX4
  | 5, _ => exact nmX5
  | 6, _ => exact nmX6
  | 7, _ => exact nmX7
  | 8, _ => exact nmX8
  | 9, _ => exact nmX9
  | 10, _ => exact nmX10
  | 11, _ => exact nmX11
  | 12, _ => exact nmX12
/-- the words of the tables that a callee may have -/
def zm_g : List Cond := lw_tbl.filter goodWord
theorem zm_in {w : Cond} (h : w ∈ lw_tbl) (hg : goodWord w = true) : w ∈ zm_g := List.mem_filter.mpr ⟨h, hg⟩
theorem zm_lays {ci : Nat} (h : ci < 13) : ∀ w ∈ u_ws (zm_C ci) (zm_F ci) (zm_N ci), w ∈ zm_g := by
  have key : ∀ (l : List Cond), (l.all (fun w => decide (w ∈ lw_tbl) && goodWord w)) = true → ∀ w ∈ l, w ∈ zm_g := fun l hl w hw => by
    have h1 := List.all_eq_true.mp hl w hw
    simp only [Bool.and_eq_true, decide_eq_true_eq] at h1
    exact zm_in h1.1 h1.2
  match ci, h with
  | 0, _ => exact key wsX00 (by decide +kernel)
  | 1, _ => exact key wsX10 (by decide +kernel)
  | 2, _ => exact key wsX20 (by decide +kernel)
  | 3, _ => exact key wsX30 (by decide +kernel)
  | 4, _ => exact key wsX40 (by decide +kernel)
  | 5, _ => exact key wsX50 (by decide +kernel)
  | 6, _ => exact key wsX60 (by decide +kernel)
  | 7, _ => exact key wsX70 (by decide +kernel)
  | 8, _ => exact key wsX80 (by decide +kernel)
  | 9, _ => exact key wsX90 (by decide +kernel)
  | 10, _ => exact key wsX100 (by decide +kernel)
  | 11, _ => exact key wsX110 (by decide +kernel)
  | 12, _ => exact key wsX120 (by decide +kernel)
/-! which cell is what: id 0 the TornReeds, from 4 on 13 cells a BIT, 134 the WordList, 142 the Sheet, 151 the Search, 167 the Roll, 169 the KnownText, 171 the TornReedsModel -/
def zm_sb (r : Nat) : zS := match r with
  | 0 => .inl 0 | 1 => .inr (.int, 50) | 2 => .inr (.int, 50) | 3 => .inr (.int, 50) | 4 => .inr (.int, 5) | 5 => .inr (.int, 5) | 6 => .inl 1 | 7 => .inr (.int, 5) | 8 => .inr (.boolean, 5) | 9 => .inl 1 | 10 => .inr (.int, 10) | 11 => .inr (.boolean, 10) | _ => .inr (.int, 6)
def zm_sr (r : Nat) : zS := match r with
  | 0 => .inl 10 | 1 => .inr (.array .long, 2) | 2 => .inr (.long, 27) | 3 => .inr (.long, 27) | 4 => .inr (.long, 2) | 5 => .inr (.long, 2) | 6 => .inr (.long, 2) | 7 => .inr (.long, 2)
  | 8 => .inl 8 | 9 => .inr (.int, 512) | 10 => .inr (.int, 512) | 11 => .inl 3 | 12 => .inr (.int, 16) | 13 => .inr (.int, 16) | 14 => .inl 3 | 15 => .inr (.int, 32) | 16 => .inr (.int, 32)
  | 17 => .inl 7 | 18 => .inl 5 | 19 => .inr (.int, 512) | 20 => .inr (.int, 512) | 21 => .inr (.int, 512) | 22 => .inr (.boolean, 512) | 23 => .inl 5 | 24 => .inr (.int, 512) | 25 => .inr (.int, 512) | 26 => .inr (.int, 512) | 27 => .inr (.boolean, 512) | 28 => .inr (.int, 512)
  | 29 => .inl 4 | 30 => .inr (.int, 231) | 31 => .inr (.int, 11) | 32 => .inr (.int, 21) | 33 => .inl 6 | 34 => .inr (.int, 40) | 35 => .inl 2 | 36 => .inr (.int, 200)
  | 37 => .inl 12 | 38 => .inr (.int, 200) | 39 => .inr (.boolean, 10) | 40 => .inr (.int, 500) | 41 => .inr (.int, 50) | 42 => .inr (.int, 100) | 43 => .inr (.boolean, 10) | 44 => .inr (.int, 10) | 45 => .inr (.int, 10) | 46 => .inr (.int, 10) | 47 => .inr (.int, 60) | 48 => .inr (.int, 50) | 49 => .inr (.int, 12) | 50 => .inr (.int, 120) | 51 => .inr (.int, 512) | 52 => .inr (.int, 512) | 53 => .inr (.int, 512) | 54 => .inr (.int, 40) | _ => .inr (.int, 200)
def zm_s0 (r : Nat) : zS := match r with
  | 0 => .inl 11 | 1 => .inl 9 | 2 => .inr (.int, 200) | _ => .inr (.object "TornReeds$Bit", 10)
def zm_sh (id : Nat) : zS := if id < 4 then zm_s0 id else if id < 134 then zm_sb ((id - 4) % 13) else zm_sr (id - 134)
def zm_sz (id : Nat) : Nat := match zm_sh id with
  | .inl ci => zm_N ci
  | .inr q => q.2
def zm_ss : Nat → Nat
  | 0 => 0
  | n + 1 => zm_ss n + zm_sz n
theorem zm_ss_mono (a : Nat) : ∀ d, zm_ss a ≤ zm_ss (a + d)
  | 0 => Nat.le_refl _
  | d + 1 => Nat.le_trans (zm_ss_mono a d) (Nat.le_add_right _ _)
theorem zm_ss_le {a b : Nat} (h : a ≤ b) : zm_ss a ≤ zm_ss b := by
  have := zm_ss_mono a (b - a)
  rwa [Nat.add_sub_cancel' h] at this
/-! values: a reference is an id; ad puts the addresses -/
def z_c (ad : Nat → Nat) (v : Value) : Value := match v with
  | .ref k => .ref (ad k)
  | v => v
def z_w (n : Nat) (v : Value) : Prop := match v with
  | .ref k => k < n ∨ k = 1000
  | _ => True
theorem z_cat (ad : Nat → Nat) (v : Value) : (z_c ad v).category = v.category := by cases v <;> rfl
def z_eq (n : Nat) (ad ad' : Nat → Nat) : Prop := ∀ k, (k < n ∨ k = 1000) → ad' k = ad k
theorem z_c_eq {n : Nat} {ad ad' : Nat → Nat} (h : z_eq n ad ad') {v : Value} (hv : z_w n v) : z_c ad' v = z_c ad v := by
  cases v with
  | ref k => exact congrArg Value.ref (h k hv)
  | _ => rfl
theorem z_w_mono {n n' : Nat} (h : n ≤ n') {v : Value} (hv : z_w n v) : z_w n' v := by
  cases v with
  | ref k => exact hv.elim (fun q => Or.inl (Nat.lt_of_lt_of_le q h)) Or.inr
  | _ => trivial
def z_l (ad : Nat → Nat) (lv : List (Nat × Value)) : List (Nat × Value) := lv.map fun q => (q.1, z_c ad q.2)
def z_s (ad : Nat → Nat) (st : List Value) : List Value := st.map (z_c ad)
def z_wl (n : Nat) (lv : List (Nat × Value)) : Prop := ∀ q ∈ lv, z_w n q.2
def z_ws (n : Nat) (st : List Value) : Prop := ∀ v ∈ st, z_w n v
theorem z_l_eq {n : Nat} {ad ad' : Nat → Nat} (h : z_eq n ad ad') {lv : List (Nat × Value)} (hv : z_wl n lv) : z_l ad' lv = z_l ad lv :=
  List.map_congr_left fun q hq => by rw [z_c_eq h (hv q hq)]
theorem z_s_eq {n : Nat} {ad ad' : Nat → Nat} (h : z_eq n ad ad') {st : List Value} (hv : z_ws n st) : z_s ad' st = z_s ad st :=
  List.map_congr_left fun q hq => z_c_eq h (hv q hq)
theorem z_ws_cons {n : Nat} {v : Value} {st : List Value} (h : z_w n v) (hs : z_ws n st) : z_ws n (v :: st) := fun x hx => (List.mem_cons.mp hx).elim (fun e => e ▸ h) (hs x)
theorem z_ws_tail {n : Nat} {v : Value} {st : List Value} (hs : z_ws n (v :: st)) : z_ws n st := fun x hx => hs x (List.mem_cons_of_mem _ hx)
theorem z_ws_head {n : Nat} {v : Value} {st : List Value} (hs : z_ws n (v :: st)) : z_w n v := hs v List.mem_cons_self
/-! a cell's picture -/
def zm_f (ad : Nat → Nat) (m : zM) (id k : Nat) (ty : FieldType) : Value := match ty with
  | .int => .int (m.1 id k)
  | .boolean => .int (m.1 id k)
  | .long => .long (m.2.1 id k)
  | _ => va_rf ((m.2.2.1 id k).map ad)
def zm_a (ad : Nat → Nat) (m : zM) (id n : Nat) (ty : FieldType) : vp_A := match ty with
  | .int => (n, .inl (m.1 id))
  | .boolean => (n, .inl (m.1 id))
  | .long => (n, .inr (.inl (m.2.1 id)))
  | _ => (n, .inr (.inr (.inr (.inr (fun k => (m.2.2.1 id k).map ad)))))
def zm_E (ad : Nat → Nat) (ca : FieldType → Nat) (m : zM) (id : Nat) : va_E := match zm_sh id with
  | .inl ci => .inr (ci, (List.range (zm_N ci)).map (fun k => zm_f ad m id k (zm_T ci k)))
  | .inr q => .inl (ca q.1, zm_a ad m id q.2 q.1)
def zm_W (ad : Nat → Nat) (ca : FieldType → Nat) (m : zM) : va_W := (List.range m.2.2.2).map fun id => (ad id, zm_E ad ca m id)
theorem zm_W_at (ad : Nat → Nat) (ca : FieldType → Nat) (m : zM) {id : Nat} (h : id < m.2.2.2) : (zm_W ad ca m)[id]? = some (ad id, zm_E ad ca m id) := by
  unfold zm_W
  rw [List.getElem?_map, List.getElem?_range h]
  rfl
theorem zm_W_len (ad : Nat → Nat) (ca : FieldType → Nat) (m : zM) : (zm_W ad ca m).length = m.2.2.2 := by simp [zm_W]
/-- one cell's picture changes -/
theorem zm_W_set (ad : Nat → Nat) (ca : FieldType → Nat) {m m' : zM} {id : Nat} (hn : m'.2.2.2 = m.2.2.2) (h : ∀ j, j ≠ id → zm_E ad ca m' j = zm_E ad ca m j) : (zm_W ad ca m).set id (ad id, zm_E ad ca m' id) = zm_W ad ca m' := by
  apply List.ext_getElem?
  intro k
  by_cases hk : k < m.2.2.2
  · by_cases e : k = id
    · subst e
      rw [List.getElem?_set_self (by rw [zm_W_len]; exact hk), zm_W_at ad ca m' (by rw [hn]; exact hk)]
    · rw [List.getElem?_set_ne (Ne.symm e), zm_W_at ad ca m hk, zm_W_at ad ca m' (by rw [hn]; exact hk), h k e]
  · rw [List.getElem?_eq_none (by rw [List.length_set, zm_W_len]; omega), List.getElem?_eq_none (by rw [zm_W_len, hn]; omega)]
def zm_t (ca : FieldType → Nat) : List (ClassId × FieldType) := [(ca .int, .int), (ca .boolean, .boolean), (ca .long, .long), (ca (.object "TornReeds$Bit"), .object "TornReeds$Bit"), (ca (.array .long), .array .long)]
/-- references stay among the cells -/
def zm_wf (m : zM) : Prop := (∀ id k j, m.2.2.1 id k = some j → j < m.2.2.2) ∧ m.2.2.2 ≤ 190
def zm_R (D : va_G) (ca : FieldType → Nat) (A : Nat → Prop) (ad : Nat → Nat) (m : zM) (H : Heap) : Prop := va_P D vwCl (zm_W ad ca m) H ∧ va_D A (zm_W ad ca m) ∧ zm_wf m
/-- the words that aren't among those a callee may have by its list -/
def zm_nest : List Cond := [.methodLinkNest RX11 11 yX9_init RX11, .methodLinkNest RX11 27 yX10_init RX11, .methodLinkNest RX11 41 yX7_init RX11, .methodLinkNest RX7 11 yX5_init RX11, .methodLinkNest RX7 27 yX4_init RX11, .methodLinkNest RX11 48 yX6_init RX11, .methodLinkNest RX11 55 yX2_init RX11, .methodLinkNest RX0 58 yX11_isText RX11, .methodLinkNest RX9 19 yX11_isLetter RX11, .methodLinkNest RX8 90 yX11_isText RX11, .methodLinkNest RX2 65 yX11_isText RX11]
theorem zm_nest_in : ∀ w ∈ zm_nest, w ∈ lw_tbl := by decide +kernel
end
section
/-- the class of arrays of long[] -/
def zm_AL (U : State) : Prop := ∃ (comp c : ClassId) (k : Class), U.vm.findClass "[J" = some comp ∧ (U.vm.classes.findIdx? fun (x : Class) => match x.kind with | .array component _ => component == comp | _ => false) = some c ∧ U.vm.classes[c]? = some k ∧ k.kind = .array comp (.array .long) ∧ U.vm.findClass "[[J" = some c
theorem zm_AL.moved {u U : State} (hvm : u.vm.Alike U.vm) (h : zm_AL u) : zm_AL U := by
  obtain ⟨comp, c, k, h1, h2, h3, h4, h5⟩ := h
  obtain ⟨k', hk', he⟩ := hvm.2.2 _ _ h3
  refine ⟨comp, c, k', by rw [hvm.findClass]; exact h1, ?_, hk', by rw [he]; exact h4, by rw [hvm.findClass]; exact h5⟩
  have e1 := va_idx_bare u.vm comp
  have e2 := va_idx_bare U.vm comp
  have e3 : u.vm.bare = U.vm.bare := by first | exact hvm.bare_eq | exact hvm.bare_eq.symm
  rw [e3] at e1
  exact (e2.symm.trans e1).trans h2
/-! what a method's walk rests on: code, class, locals' count, answer's type, height, first cell, cells made, constructor, script -/
abbrev zE : Type := ByteArray × String × Nat × Option FieldType × Nat × Nat × Nat × Bool × Option (Nat × (Nat → Int32))
def ze_cc (E : zE) : ByteArray := E.1
def ze_own (E : zE) : String := E.2.1
def ze_nL (E : zE) : Nat := E.2.2.1
def ze_ret (E : zE) : Option FieldType := E.2.2.2.1
def ze_h (E : zE) : Nat := E.2.2.2.2.1
def ze_n0 (E : zE) : Nat := E.2.2.2.2.2.1
def ze_mc (E : zE) : Nat := E.2.2.2.2.2.2.1
def ze_ini (E : zE) : Bool := E.2.2.2.2.2.2.2.1
def ze_scr (E : zE) : Option (Nat × (Nat → Int32)) := E.2.2.2.2.2.2.2.2
/-- an answer of the type -/
def z_ok (t : Option FieldType) (r : Option Value) : Prop := match t, r with
  | none, none => True
  | some .int, some (.int _) => True
  | some .boolean, some (.int v) => v = 0 ∨ v = 1
  | some (.object _), some (.ref _) => True
  | some (.object _), some .null => True
  | _, _ => False
def z_ri (r : Option Value) : Instr := match r with
  | none => .return_
  | some (.int _) => .ireturn
  | _ => .areturn
def zm_cs (E : zE) (m : zM) : Nat := m.2.2.2 - ze_n0 E
def zm_sl (E : zE) (m : zM) : Nat := zm_ss m.2.2.2 - zm_ss (ze_n0 E)
def zm_A (E : zE) (Q : Option Value → zM → Prop) (p : Program) (l : Launch) (e : Env) (R : Room) (s : State) (mi : MethodId) (args : Array Value) (below : List Frame) (meth : Method) (c : Code) (D : va_G) (ca : FieldType → Nat) (A : Nat → Prop) (b : Nat → Nat) (Z : State → Prop) : Prop :=
  p.tables.exec = Jvm.exec ∧ c.code = ze_cc E ∧ c.maxLocals = ze_nL E ∧ s.vm.findClass (ze_own E) = some mi.cls ∧ (∀ w ∈ zm_g, w.before args s = true) ∧
  (∀ w ∈ zm_nest, va_Nw w s) ∧ va_AO "TornReeds$Bit" s ∧ zm_AL s ∧
  va_K D vwCl (zm_t ca) s ∧ (∀ q, s.heap.size ≤ q → A q) ∧
  (ze_h E ≤ R.frames ∧ 40 * ze_h E ≤ R.locals ∧ ze_mc E ≤ R.cells ∧ zm_ss (ze_n0 E + ze_mc E) - zm_ss (ze_n0 E) ≤ R.slots) ∧
  (ze_ini E = true → meth.name = "<init>") ∧
  (∀ q, ze_scr E = some q → va_X (b 1000) q.1 q.2 s s.heap ∧ b 1000 < s.heap.size ∧ ¬ A (b 1000)) ∧
  (∀ (r : Option Value) (m : zM) (ad : Nat → Nat) (H : Heap) (locs : List Loc) (pc : Nat) (ls : Array Slot), z_ok (ze_ret E) r → decode (ze_cc E) pc = .ok (z_ri r, 1) → z_eq (ze_n0 E) b ad → zm_R D ca A ad m H → va_S A s.heap H locs → (∀ v, r = some v → z_w m.2.2.2 v) → m.2.2.2 = ze_n0 E + ze_mc E → Q r m →
    W p l e R s mi args below meth c H locs (zm_cs E m) (zm_sl E m) Z (F0 mi pc ls (z_s ad r.toList)))
def Wp (E : zE) (Q : Option Value → zM → Prop) (pc : Nat) (lv : List (Nat × Value)) (st : List Value) (m : zM) : Prop :=
  ∀ (p : Program) (l : Launch) (e : Env) (R : Room) (s : State) (mi : MethodId) (args : Array Value) (below : List Frame) (meth : Method) (c : Code) (D : va_G) (ca : FieldType → Nat) (A : Nat → Prop) (b : Nat → Nat) (Z : State → Prop), zm_A E Q p l e R s mi args below meth c D ca A b Z →
    ∀ (ad : Nat → Nat) (H : Heap) (locs : List Loc) (ls : Array Slot), z_eq (ze_n0 E) b ad → zm_R D ca A ad m H → va_S A s.heap H locs → z_wl m.2.2.2 lv → z_ws m.2.2.2 st → ze_n0 E ≤ m.2.2.2 → lv_has ls (ze_nL E) (z_l ad lv) →
    W p l e R s mi args below meth c H locs (zm_cs E m) (zm_sl E m) Z (F0 mi pc ls (z_s ad st))
section WR
variable {E : zE} {Q : Option Value → zM → Prop} {pc : Nat} {lv : List (Nat × Value)} {st : List Value} {m : zM}
/-- the same answer wanted more weakly -/
theorem wp_mono {Q' : Option Value → zM → Prop} (h : ∀ r m', Q r m' → Q' r m') (k : Wp E Q pc lv st m) : Wp E Q' pc lv st m := by
  intro p l e R s mi args below meth c D ca A b Z hA ad H locs ls h1 h2 h3 h4 h5 h6 h7
  obtain ⟨a1, a2, a3, a4, a5, a6, a7, a8, a9, a10, a11, a12, a13, a14⟩ := hA
  exact k p l e R s mi args below meth c D ca A b Z ⟨a1, a2, a3, a4, a5, a6, a7, a8, a9, a10, a11, a12, a13, fun r m2 ad2 H2 locs2 pc2 ls2 b1 b2 b3 b4 b5 b6 b7 b8 => a14 r m2 ad2 H2 locs2 pc2 ls2 b1 b2 b3 b4 b5 b6 b7 (h _ _ b8)⟩ ad H locs ls h1 h2 h3 h4 h5 h6 h7
/-- fewer locals, in another order -/
theorem w_sub (lv' : List (Nat × Value)) (ks : List Nat) (hl : lv_pick lv ks = lv') (k : Wp E Q pc lv' st m) : Wp E Q pc lv st m := by
  intro p l e R s mi args below meth c D ca A b Z hA ad H locs ls h1 h2 h3 h4 h5 h6 h7
  refine k p l e R s mi args below meth c D ca A b Z hA ad H locs ls h1 h2 h3 ?_ h5 h6 ?_
  · intro q hq
    rw [← hl] at hq
    obtain ⟨i, -, hi⟩ := List.mem_filterMap.mp hq
    exact h4 q (List.mem_of_getElem? hi)
  · refine ⟨h7.1, h7.2.1, fun q hq => ?_⟩
    obtain ⟨q0, hq0, rfl⟩ := List.mem_map.mp hq
    rw [← hl] at hq0
    obtain ⟨i, -, hi⟩ := List.mem_filterMap.mp hq0
    exact h7.2.2 _ (List.mem_map.mpr ⟨q0, List.mem_of_getElem? hi, rfl⟩)
/-- the end -/
theorem w_ret (r : Option Value) (hdg : decode (ze_cc E) pc = .ok (z_ri r, 1)) (hok : z_ok (ze_ret E) r) (hn : m.2.2.2 = ze_n0 E + ze_mc E) (k : Q r m) : Wp E Q pc lv r.toList m := by
  intro p l e R s mi args below meth c D ca A b Z hA ad H locs ls h1 h2 h3 h4 h5 h6 h7
  obtain ⟨a1, a2, a3, a4, a5, a6, a7, a8, a9, a10, a11, a12, a13, a14⟩ := hA
  exact a14 r m ad H locs pc ls hok hdg h1 h2 h3 (fun v hv => h5 v (by rw [hv]; exact List.mem_cons_self)) hn k
end WR
end
section
/-! locals by their numbers, in order -/
def z_get : List (Nat × Value) → Nat → Option Value
  | [], _ => none
  | q :: t, i => cond (Nat.beq q.1 i) (some q.2) (z_get t i)
def z_ins : List (Nat × Value) → Nat → Value → List (Nat × Value)
  | [], i, v => [(i, v)]
  | q :: t, i, v => cond (Nat.blt i q.1) ((i, v) :: q :: t) (q :: z_ins t i v)
def z_del : List (Nat × Value) → Nat → List (Nat × Value)
  | [], _ => []
  | q :: t, i => cond (Nat.beq q.1 i) (z_del t i) (q :: z_del t i)
def z_put (lv : List (Nat × Value)) (i : Nat) (v : Value) : List (Nat × Value) := z_ins (z_del lv i) i v
/-- no long just ahead of i -/
def z_nol : List (Nat × Value) → Nat → Bool
  | [], _ => true
  | q :: t, i => cond (Nat.beq (q.1 + 1) i) (Nat.beq q.2.category 1 && z_nol t i) (z_nol t i)
/-- nothing at i -/
def z_non : List (Nat × Value) → Nat → Bool
  | [], _ => true
  | q :: t, i => cond (Nat.beq q.1 i) false (z_non t i)
theorem z_get_mem : ∀ {lv : List (Nat × Value)} {i : Nat} {v : Value}, z_get lv i = some v → (i, v) ∈ lv
  | [], _, _, h => by cases h
  | q :: t, i, v, h => by
    unfold z_get at h
    cases e : Nat.beq q.1 i with
    | true =>
      rw [e] at h
      have e1 := Nat.eq_of_beq_eq_true e
      have e2 : q.2 = v := Option.some.inj h
      rw [← e1, ← e2]
      exact List.mem_cons_self
    | false =>
      rw [e] at h
      exact List.mem_cons_of_mem _ (z_get_mem h)
theorem z_ins_mem : ∀ {lv : List (Nat × Value)} {i : Nat} {v : Value} {x : Nat × Value}, x ∈ z_ins lv i v → x = (i, v) ∨ x ∈ lv
  | [], _, _, _, h => Or.inl (List.mem_singleton.mp h)
  | q :: t, i, v, x, h => by
    unfold z_ins at h
    cases e : Nat.blt i q.1 with
    | true =>
      rw [e] at h
      exact (List.mem_cons.mp h).imp id id
    | false =>
      rw [e] at h
      rcases List.mem_cons.mp h with h | h
      · exact Or.inr (h ▸ List.mem_cons_self)
      · exact (z_ins_mem h).imp id (List.mem_cons_of_mem _)
theorem z_del_mem : ∀ {lv : List (Nat × Value)} {i : Nat} {x : Nat × Value}, x ∈ z_del lv i → x ∈ lv ∧ x.1 ≠ i
  | [], _, _, h => by cases h
  | q :: t, i, x, h => by
    unfold z_del at h
    cases e : Nat.beq q.1 i with
    | true =>
      rw [e] at h
      exact ⟨List.mem_cons_of_mem _ (z_del_mem h).1, (z_del_mem h).2⟩
    | false =>
      rw [e] at h
      rcases List.mem_cons.mp h with h | h
      · subst h
        exact ⟨List.mem_cons_self, fun q => by rw [q, Nat.beq_refl] at e; cases e⟩
      · exact ⟨List.mem_cons_of_mem _ (z_del_mem h).1, (z_del_mem h).2⟩
theorem z_put_mem {lv : List (Nat × Value)} {i : Nat} {v : Value} {x : Nat × Value} (h : x ∈ z_put lv i v) : x = (i, v) ∨ (x ∈ lv ∧ x.1 ≠ i) := (z_ins_mem h).imp id z_del_mem
theorem z_nol_mem : ∀ {lv : List (Nat × Value)} {i : Nat} {x : Nat × Value}, z_nol lv i = true → x ∈ lv → ¬ (x.1 + 1 = i ∧ x.2.category = 2)
  | [], _, _, _, h => by cases h
  | q :: t, i, x, hn, h => by
    unfold z_nol at hn
    rcases List.mem_cons.mp h with h | h
    · subst h
      rintro ⟨h1, h2⟩
      rw [h1, Nat.beq_refl, h2] at hn
      cases hn
    · cases e : Nat.beq (q.1 + 1) i with
      | true =>
        rw [e] at hn
        exact z_nol_mem ((Bool.and_eq_true _ _).mp hn).2 h
      | false =>
        rw [e] at hn
        exact z_nol_mem hn h
theorem z_non_mem : ∀ {lv : List (Nat × Value)} {i : Nat} {x : Nat × Value}, z_non lv i = true → x ∈ lv → x.1 ≠ i
  | [], _, _, _, h => by cases h
  | q :: t, i, x, hn, h => by
    unfold z_non at hn
    cases e : Nat.beq q.1 i with
    | true => rw [e] at hn; cases hn
    | false =>
      rw [e] at hn
      rcases List.mem_cons.mp h with h | h
      · subst h
        exact fun q => by rw [q, Nat.beq_refl] at e; cases e
      · exact z_non_mem hn h
theorem z_get_w {n : Nat} {lv : List (Nat × Value)} {i : Nat} {v : Value} (h : z_wl n lv) (hl : z_get lv i = some v) : z_w n v := h _ (z_get_mem hl)
theorem z_put_w {n : Nat} {lv : List (Nat × Value)} {i : Nat} {v : Value} (h : z_wl n lv) (hv : z_w n v) : z_wl n (z_put lv i v) := fun x hx => (z_put_mem hx).elim (fun e => e ▸ hv) (fun q => h x q.1)
theorem zl_at {ls : Array Slot} {nL : Nat} {ad : Nat → Nat} {lv : List (Nat × Value)} {i : Nat} {v : Value} (h : lv_has ls nL (z_l ad lv)) (hl : z_get lv i = some v) : ls[i]? = some (.val (z_c ad v)) := h.2.2 _ (List.mem_map.mpr ⟨(i, v), z_get_mem hl, rfl⟩)
theorem zl_pos {ad : Nat → Nat} {lv : List (Nat × Value)} {i : Nat} {v : Value} (hl : z_get lv i = some v) : ∃ k : Nat, (z_l ad lv)[k]? = some (i, z_c ad v) := List.getElem?_of_mem (List.mem_map.mpr ⟨(i, v), z_get_mem hl, rfl⟩)
theorem z_put_has {ls : Array Slot} {nL : Nat} {ad : Nat → Nat} {lv : List (Nat × Value)} {i : Nat} {v : Value} (hno : z_nol lv i = true) (h : lv_has ls nL ((i, z_c ad v) :: (z_l ad lv).filter (fun q => !(q.1 == i) && !(q.1 + 1 == i && q.2.category == 2)))) : lv_has ls nL (z_l ad (z_put lv i v)) := by
  refine ⟨h.1, h.2.1, fun q hq => ?_⟩
  obtain ⟨x, hx, rfl⟩ := List.mem_map.mp hq
  rcases z_put_mem hx with e | ⟨e1, e2⟩
  · subst e
    exact h.2.2 _ List.mem_cons_self
  · refine h.2.2 _ (List.mem_cons_of_mem _ (List.mem_filter.mpr ⟨List.mem_map.mpr ⟨x, e1, rfl⟩, ?_⟩))
    have e3 := z_nol_mem hno e1
    simp only [z_cat]
    simp only [Bool.and_eq_true, Bool.not_eq_true', beq_eq_false_iff_ne, ne_eq, Bool.and_eq_false_iff]
    refine ⟨e2, ?_⟩
    by_cases q1 : x.1 + 1 = i
    · exact Or.inr fun q2 => e3 ⟨q1, q2⟩
    · exact Or.inl q1
theorem z_put_hasL {ls : Array Slot} {nL : Nat} {ad : Nat → Nat} {lv : List (Nat × Value)} {i : Nat} {v : Value} (hno : z_nol lv i = true) (hn2 : z_non lv (i + 1) = true) (h : lv_has ls nL ((i, z_c ad v) :: (z_l ad lv).filter (fun q => !(q.1 == i) && (!(q.1 == i + 1) && !(q.1 + 1 == i && q.2.category == 2))))) : lv_has ls nL (z_l ad (z_put lv i v)) := by
  refine ⟨h.1, h.2.1, fun q hq => ?_⟩
  obtain ⟨x, hx, rfl⟩ := List.mem_map.mp hq
  rcases z_put_mem hx with e | ⟨e1, e2⟩
  · subst e
    exact h.2.2 _ List.mem_cons_self
  · refine h.2.2 _ (List.mem_cons_of_mem _ (List.mem_filter.mpr ⟨List.mem_map.mpr ⟨x, e1, rfl⟩, ?_⟩))
    have e3 := z_nol_mem hno e1
    have e4 := z_non_mem hn2 e1
    simp only [z_cat]
    simp only [Bool.and_eq_true, Bool.not_eq_true', beq_eq_false_iff_ne, ne_eq, Bool.and_eq_false_iff]
    refine ⟨e2, e4, ?_⟩
    by_cases q1 : x.1 + 1 = i
    · exact Or.inr fun q2 => e3 ⟨q1, q2⟩
    · exact Or.inl q1
/-! memory: one place changes -/
def z_u {α : Type} (f : Nat → Nat → α) (id k : Nat) (v : α) : Nat → Nat → α := fun i j => if i = id ∧ j = k then v else f i j
def z_uI (m : zM) (id k : Nat) (x : Int32) : zM := (z_u m.1 id k x, m.2)
def z_uJ (m : zM) (id k : Nat) (x : Int64) : zM := (m.1, z_u m.2.1 id k x, m.2.2)
def z_uR (m : zM) (id k j : Nat) : zM := (m.1, m.2.1, z_u m.2.2.1 id k (some j), m.2.2.2)
theorem z_u_ne {α : Type} {f : Nat → Nat → α} {id k i : Nat} {v : α} (h : i ≠ id) : z_u f id k v i = f i := by
  funext j
  exact if_neg fun q => h q.1
theorem z_u_row {α : Type} {f : Nat → Nat → α} {id k : Nat} {v : α} (j : Nat) : z_u f id k v id j = if j = k then v else f id j := by
  by_cases h : j = k
  · rw [if_pos h]; exact if_pos ⟨rfl, h⟩
  · rw [if_neg h]; exact if_neg fun q => h q.2
theorem zm_E_cong {ad : Nat → Nat} {ca : FieldType → Nat} {m m' : zM} {j : Nat} (h1 : m'.1 j = m.1 j) (h2 : m'.2.1 j = m.2.1 j) (h3 : m'.2.2.1 j = m.2.2.1 j) : zm_E ad ca m' j = zm_E ad ca m j := by
  unfold zm_E
  cases zm_sh j with
  | inl ci =>
    simp only
    congr 2
    apply List.map_congr_left
    intro k _
    unfold zm_f
    rw [h1, h2, h3]
  | inr q =>
    simp only
    congr 2
    unfold zm_a
    rw [h1, h2, h3]
def zm_fl (own : String) (idx ci kf : Nat) : Prop := ci < 13 ∧ kf < zm_N ci ∧ Cond.fieldLink own idx (zm_F ci kf).1 (zm_F ci kf).2.1 (zm_F ci kf).2.2.1 ∈ zm_g
def zm_rt (t : FieldType) : Bool := match t with
  | .object _ => true
  | .array _ => true
  | _ => false
theorem zm_W_obj (ad : Nat → Nat) (ca : FieldType → Nat) (m : zM) {id ci : Nat} (h : id < m.2.2.2) (hs : zm_sh id = .inl ci) : (zm_W ad ca m)[id]? = some (ad id, .inr (ci, (List.range (zm_N ci)).map (fun k => zm_f ad m id k (zm_T ci k)))) := by
  rw [zm_W_at ad ca m h]
  unfold zm_E
  rw [hs]
theorem zm_W_arr (ad : Nat → Nat) (ca : FieldType → Nat) (m : zM) {id n : Nat} {ty : FieldType} (h : id < m.2.2.2) (hs : zm_sh id = .inr (ty, n)) : (zm_W ad ca m)[id]? = some (ad id, .inl (ca ty, zm_a ad m id n ty)) := by
  rw [zm_W_at ad ca m h]
  unfold zm_E
  rw [hs]
theorem zm_fat (ad : Nat → Nat) (m : zM) (id : Nat) {ci kf : Nat} (hk : kf < zm_N ci) : ((List.range (zm_N ci)).map (fun k => zm_f ad m id k (zm_T ci k)))[kf]? = some (zm_f ad m id kf (zm_T ci kf)) := by
  rw [List.getElem?_map, List.getElem?_range hk]; rfl
theorem zm_fI (ad : Nat → Nat) (m : zM) (id : Nat) {ci kf : Nat} (hk : kf < zm_N ci) (ht : zm_T ci kf = .int ∨ zm_T ci kf = .boolean) : ((List.range (zm_N ci)).map (fun k => zm_f ad m id k (zm_T ci k)))[kf]? = some (.int (m.1 id kf)) := by
  rw [zm_fat ad m id hk]
  rcases ht with h | h <;> rw [h] <;> rfl
theorem zm_fR (ad : Nat → Nat) (m : zM) (id : Nat) {ci kf j : Nat} (hk : kf < zm_N ci) (ht : zm_rt (zm_T ci kf) = true) (hj : m.2.2.1 id kf = some j) : ((List.range (zm_N ci)).map (fun k => zm_f ad m id k (zm_T ci k)))[kf]? = some (.ref (ad j)) := by
  rw [zm_fat ad m id hk]
  cases h : zm_T ci kf <;> rw [h] at ht <;> first | (cases ht; done) | (unfold zm_f; simp only [hj]; rfl)
theorem zm_nI {ty : FieldType} {x : Int32} (ht : ty = .int ∨ (ty = .boolean ∧ (x = 0 ∨ x = 1))) : narrow ty (.int x) = .int x ∧ fits ty (.int x) = true := by
  rcases ht with rfl | ⟨rfl, rfl | rfl⟩
  · exact ⟨rfl, rfl⟩
  · exact ⟨rfl, rfl⟩
  · exact ⟨by decide +kernel, by decide +kernel⟩
theorem zm_nR {ty : FieldType} (a : Nat) (ht : zm_rt ty = true) : narrow ty (.ref a) = .ref a ∧ fits ty (.ref a) = true := by
  cases ty <;> first | (cases ht; done) | exact ⟨rfl, rfl⟩
theorem zm_narZ {x : Int32} (h : x = 0 ∨ x = 1) : vp_nar .boolean x = x := by
  rcases h with rfl | rfl <;> decide +kernel
theorem zm_setI (ad : Nat → Nat) (ca : FieldType → Nat) {m : zM} {id ci kf : Nat} {x : Int32} (h : id < m.2.2.2) (hs : zm_sh id = .inl ci) (hk : kf < zm_N ci) (ht : zm_T ci kf = .int ∨ zm_T ci kf = .boolean) : (zm_W ad ca m).set id (ad id, .inr (ci, ((List.range (zm_N ci)).map (fun k => zm_f ad m id k (zm_T ci k))).set kf (.int x))) = zm_W ad ca (z_uI m id kf x) := by
  rw [← zm_W_set ad ca (m := m) (m' := z_uI m id kf x) (id := id) rfl (fun j hj => zm_E_cong (z_u_ne hj) rfl rfl)]
  congr 3
  unfold zm_E
  rw [hs]
  simp only
  congr 2
  apply List.ext_getElem?
  intro k
  by_cases hk2 : k < zm_N ci
  · rw [zm_fat ad _ id hk2]
    by_cases e : k = kf
    · subst e
      rw [List.getElem?_set_self (by simpa using hk)]
      rcases ht with q | q <;> rw [q] <;> simp [zm_f, z_uI, z_u]
    · rw [List.getElem?_set_ne (Ne.symm e), zm_fat ad m id hk2]
      unfold zm_f z_uI
      simp [z_u, e]
  · rw [List.getElem?_eq_none (by simp; omega), List.getElem?_eq_none (by simp; omega)]
theorem zm_setR (ad : Nat → Nat) (ca : FieldType → Nat) {m : zM} {id ci kf j : Nat} (h : id < m.2.2.2) (hs : zm_sh id = .inl ci) (hk : kf < zm_N ci) (ht : zm_rt (zm_T ci kf) = true) : (zm_W ad ca m).set id (ad id, .inr (ci, ((List.range (zm_N ci)).map (fun k => zm_f ad m id k (zm_T ci k))).set kf (.ref (ad j)))) = zm_W ad ca (z_uR m id kf j) := by
  rw [← zm_W_set ad ca (m := m) (m' := z_uR m id kf j) (id := id) rfl (fun i hi => zm_E_cong rfl rfl (z_u_ne hi))]
  congr 3
  unfold zm_E
  rw [hs]
  simp only
  congr 2
  apply List.ext_getElem?
  intro k
  by_cases hk2 : k < zm_N ci
  · rw [zm_fat ad _ id hk2]
    by_cases e : k = kf
    · subst e
      rw [List.getElem?_set_self (by simpa using hk)]
      cases q : zm_T ci k <;> rw [q] at ht <;> first | (cases ht; done) | simp [zm_f, z_uR, z_u, va_rf]
    · rw [List.getElem?_set_ne (Ne.symm e), zm_fat ad m id hk2]
      unfold zm_f z_uR
      simp [z_u, e]
  · rw [List.getElem?_eq_none (by simp; omega), List.getElem?_eq_none (by simp; omega)]
theorem zm_setAI (ad : Nat → Nat) (ca : FieldType → Nat) {m : zM} {id n kf : Nat} {x : Int32} (h : id < m.2.2.2) (hs : zm_sh id = .inr (.int, n)) : (zm_W ad ca m).set id (ad id, .inl (ca .int, n, .inl (upd (m.1 id) kf x))) = zm_W ad ca (z_uI m id kf x) := by
  rw [← zm_W_set ad ca (m := m) (m' := z_uI m id kf x) (id := id) rfl (fun j hj => zm_E_cong (z_u_ne hj) rfl rfl)]
  congr 3
  unfold zm_E
  rw [hs]
  simp only [zm_a, z_uI]
  congr 4
  funext j
  exact (z_u_row j).symm
theorem zm_setAZ (ad : Nat → Nat) (ca : FieldType → Nat) {m : zM} {id n kf : Nat} {x : Int32} (h : id < m.2.2.2) (hs : zm_sh id = .inr (.boolean, n)) : (zm_W ad ca m).set id (ad id, .inl (ca .boolean, n, .inl (upd (m.1 id) kf x))) = zm_W ad ca (z_uI m id kf x) := by
  rw [← zm_W_set ad ca (m := m) (m' := z_uI m id kf x) (id := id) rfl (fun j hj => zm_E_cong (z_u_ne hj) rfl rfl)]
  congr 3
  unfold zm_E
  rw [hs]
  simp only [zm_a, z_uI]
  congr 4
  funext j
  exact (z_u_row j).symm
theorem zm_setAJ (ad : Nat → Nat) (ca : FieldType → Nat) {m : zM} {id n kf : Nat} {x : Int64} (h : id < m.2.2.2) (hs : zm_sh id = .inr (.long, n)) : (zm_W ad ca m).set id (ad id, .inl (ca .long, n, .inr (.inl (vp_updL (m.2.1 id) kf x)))) = zm_W ad ca (z_uJ m id kf x) := by
  rw [← zm_W_set ad ca (m := m) (m' := z_uJ m id kf x) (id := id) rfl (fun j hj => zm_E_cong rfl (z_u_ne hj) rfl)]
  congr 3
  unfold zm_E
  rw [hs]
  simp only [zm_a, z_uJ]
  congr 5
  funext j
  exact (z_u_row j).symm
theorem zm_setAR (ad : Nat → Nat) (ca : FieldType → Nat) {m : zM} {id n kf q : Nat} (h : id < m.2.2.2) (hs : zm_sh id = .inr (.object "TornReeds$Bit", n)) : (zm_W ad ca m).set id (ad id, .inl (ca (.object "TornReeds$Bit"), n, .inr (.inr (.inr (.inr (va_up (fun k => (m.2.2.1 id k).map ad) kf (some (ad q)))))))) = zm_W ad ca (z_uR m id kf q) := by
  rw [← zm_W_set ad ca (m := m) (m' := z_uR m id kf q) (id := id) rfl (fun j hj => zm_E_cong rfl rfl (z_u_ne hj))]
  congr 3
  unfold zm_E
  rw [hs]
  simp only [zm_a, z_uR]
  congr 8
  funext j
  rw [z_u_row]
  unfold va_up
  by_cases e : j = kf <;> simp [e]
theorem zm_wf_uR {m : zM} {id k j : Nat} (h : zm_wf m) (hj : j < m.2.2.2) : zm_wf (z_uR m id k j) := by
  refine ⟨fun i q r e => ?_, h.2⟩
  have e' : (if i = id ∧ q = k then some j else m.2.2.1 i q) = some r := e
  by_cases hc : i = id ∧ q = k
  · rw [if_pos hc] at e'
    cases e'
    exact hj
  · rw [if_neg hc] at e'
    exact h.1 _ _ _ e'
section WI
variable {E : zE} {Q : Option Value → zM → Prop} {pc : Nat} {lv : List (Nat × Value)} {st : List Value} {m : zM}
theorem w_iconst {n : Int} {v : Int32} (hdg : decode (ze_cc E) pc = .ok (.iconst n, 1)) (hv : Int32.ofInt n = v) (k : Wp E Q (pc + 1) lv (.int v :: st) m) : Wp E Q pc lv st m := by
  intro p l e R s mi args below meth c D ca A b Z hA ad H locs ls h1 h2 h3 h4 h5 h6 h7
  have hx := hA.1
  have hb := hA.2.1
  exact lv_iconst hx hb hdg hv (k p l e R s mi args below meth c D ca A b Z hA ad H locs ls h1 h2 h3 h4 (z_ws_cons trivial h5) h6 h7)
theorem w_bipush {n : Int} {v : Int32} (hdg : decode (ze_cc E) pc = .ok (.bipush n, 2)) (hv : (Int8.ofInt n).toInt32 = v) (k : Wp E Q (pc + 2) lv (.int v :: st) m) : Wp E Q pc lv st m := by
  intro p l e R s mi args below meth c D ca A b Z hA ad H locs ls h1 h2 h3 h4 h5 h6 h7
  have hx := hA.1
  have hb := hA.2.1
  exact lv_bipush hx hb hdg hv (k p l e R s mi args below meth c D ca A b Z hA ad H locs ls h1 h2 h3 h4 (z_ws_cons trivial h5) h6 h7)
theorem w_sipush {n : Int} {v : Int32} (hdg : decode (ze_cc E) pc = .ok (.sipush n, 3)) (hv : (Int16.ofInt n).toInt32 = v) (k : Wp E Q (pc + 3) lv (.int v :: st) m) : Wp E Q pc lv st m := by
  intro p l e R s mi args below meth c D ca A b Z hA ad H locs ls h1 h2 h3 h4 h5 h6 h7
  have hx := hA.1
  have hb := hA.2.1
  exact lv_sipush hx hb hdg hv (k p l e R s mi args below meth c D ca A b Z hA ad H locs ls h1 h2 h3 h4 (z_ws_cons trivial h5) h6 h7)
theorem w_lconst {n : Fin 2} {v : Int64} (hdg : decode (ze_cc E) pc = .ok (.lconst n, 1)) (hv : Int64.ofNat (n : Nat) = v) (k : Wp E Q (pc + 1) lv (.long v :: st) m) : Wp E Q pc lv st m := by
  intro p l e R s mi args below meth c D ca A b Z hA ad H locs ls h1 h2 h3 h4 h5 h6 h7
  have hx := hA.1
  have hb := hA.2.1
  exact lv_lconst hx hb hdg hv (k p l e R s mi args below meth c D ca A b Z hA ad H locs ls h1 h2 h3 h4 (z_ws_cons trivial h5) h6 h7)
theorem w_null  (hdg : decode (ze_cc E) pc = .ok (.aconst_null, 1))  (k : Wp E Q (pc + 1) lv (.null :: st) m) : Wp E Q pc lv st m := by
  intro p l e R s mi args below meth c D ca A b Z hA ad H locs ls h1 h2 h3 h4 h5 h6 h7
  have hx := hA.1
  have hb := hA.2.1
  exact lv_null hx hb hdg (k p l e R s mi args below meth c D ca A b Z hA ad H locs ls h1 h2 h3 h4 (z_ws_cons trivial h5) h6 h7)
theorem w_ldc2 {index : Nat} {v : Int64} (hdg : decode (ze_cc E) pc = .ok (.ldc2_w index, 3)) (hc : Cond.constantLong (ze_own E) index v ∈ zm_g) (k : Wp E Q (pc + 3) lv (.long v :: st) m) : Wp E Q pc lv st m := by
  intro p l e R s mi args below meth c D ca A b Z hA ad H locs ls h1 h2 h3 h4 h5 h6 h7
  have hx := hA.1
  have hb := hA.2.1
  exact lv_ldc2 hx hb hA.2.2.2.1 (hA.2.2.2.2.1 _ hc) hdg (k p l e R s mi args below meth c D ca A b Z hA ad H locs ls h1 h2 h3 h4 (z_ws_cons trivial h5) h6 h7)
theorem w_iload {i : Nat} {x : Int32} (hdg : decode (ze_cc E) pc = .ok (.iload i, 2)) (hl : z_get lv i = some (.int x)) (k : Wp E Q (pc + 2) lv (.int x :: st) m) : Wp E Q pc lv st m := by
  intro p l e R s mi args below meth c D ca A b Z hA ad H locs ls h1 h2 h3 h4 h5 h6 h7
  have hx := hA.1
  have hb := hA.2.1
  exact lv_iload hx hb hdg (zl_at h7 hl) (k p l e R s mi args below meth c D ca A b Z hA ad H locs ls h1 h2 h3 h4 (z_ws_cons (z_get_w h4 hl) h5) h6 h7)
theorem w_iload_n {i : Fin 4} {x : Int32} (hdg : decode (ze_cc E) pc = .ok (.iload_n i, 1)) (hl : z_get lv (i : Nat) = some (.int x)) (k : Wp E Q (pc + 1) lv (.int x :: st) m) : Wp E Q pc lv st m := by
  intro p l e R s mi args below meth c D ca A b Z hA ad H locs ls h1 h2 h3 h4 h5 h6 h7
  have hx := hA.1
  have hb := hA.2.1
  exact lv_iload_n hx hb hdg rfl (zl_at h7 hl) (k p l e R s mi args below meth c D ca A b Z hA ad H locs ls h1 h2 h3 h4 (z_ws_cons (z_get_w h4 hl) h5) h6 h7)
theorem w_lload {i : Nat} {x : Int64} (hdg : decode (ze_cc E) pc = .ok (.lload i, 2)) (hl : z_get lv i = some (.long x)) (k : Wp E Q (pc + 2) lv (.long x :: st) m) : Wp E Q pc lv st m := by
  intro p l e R s mi args below meth c D ca A b Z hA ad H locs ls h1 h2 h3 h4 h5 h6 h7
  have hx := hA.1
  have hb := hA.2.1
  exact lv_lload hx hb hdg (zl_at h7 hl) (k p l e R s mi args below meth c D ca A b Z hA ad H locs ls h1 h2 h3 h4 (z_ws_cons (z_get_w h4 hl) h5) h6 h7)
theorem w_lload_n {i : Fin 4} {x : Int64} (hdg : decode (ze_cc E) pc = .ok (.lload_n i, 1)) (hl : z_get lv (i : Nat) = some (.long x)) (k : Wp E Q (pc + 1) lv (.long x :: st) m) : Wp E Q pc lv st m := by
  intro p l e R s mi args below meth c D ca A b Z hA ad H locs ls h1 h2 h3 h4 h5 h6 h7
  have hx := hA.1
  have hb := hA.2.1
  exact lv_lload_n hx hb hdg rfl (zl_at h7 hl) (k p l e R s mi args below meth c D ca A b Z hA ad H locs ls h1 h2 h3 h4 (z_ws_cons (z_get_w h4 hl) h5) h6 h7)
theorem w_aload {i : Nat} {x : Nat} (hdg : decode (ze_cc E) pc = .ok (.aload i, 2)) (hl : z_get lv i = some (.ref x)) (k : Wp E Q (pc + 2) lv (.ref x :: st) m) : Wp E Q pc lv st m := by
  intro p l e R s mi args below meth c D ca A b Z hA ad H locs ls h1 h2 h3 h4 h5 h6 h7
  have hx := hA.1
  have hb := hA.2.1
  exact lv_aload hx hb hdg (zl_at h7 hl) (k p l e R s mi args below meth c D ca A b Z hA ad H locs ls h1 h2 h3 h4 (z_ws_cons (z_get_w h4 hl) h5) h6 h7)
theorem w_aload_n {i : Fin 4} {x : Nat} (hdg : decode (ze_cc E) pc = .ok (.aload_n i, 1)) (hl : z_get lv (i : Nat) = some (.ref x)) (k : Wp E Q (pc + 1) lv (.ref x :: st) m) : Wp E Q pc lv st m := by
  intro p l e R s mi args below meth c D ca A b Z hA ad H locs ls h1 h2 h3 h4 h5 h6 h7
  have hx := hA.1
  have hb := hA.2.1
  exact lv_aload_n hx hb hdg rfl (zl_at h7 hl) (k p l e R s mi args below meth c D ca A b Z hA ad H locs ls h1 h2 h3 h4 (z_ws_cons (z_get_w h4 hl) h5) h6 h7)
theorem w_istore {i : Nat} {x : Int32} (hdg : decode (ze_cc E) pc = .ok (.istore i, 2)) (hi : Nat.blt i (ze_nL E) = true) (hno : z_nol lv i = true) (k : Wp E Q (pc + 2) (z_put lv i (.int x)) st m) : Wp E Q pc lv (.int x :: st) m := by
  intro p l e R s mi args below meth c D ca A b Z hA ad H locs ls h1 h2 h3 h4 h5 h6 h7
  have hx := hA.1
  have hb := hA.2.1
  refine lv_istore hx hb hdg h7 (Nat.blt_eq.mp hi) rfl fun ls' hl' => ?_
  exact k p l e R s mi args below meth c D ca A b Z hA ad H locs ls' h1 h2 h3 (z_put_w h4 (z_ws_head h5)) (z_ws_tail h5) h6 (z_put_has hno hl')
theorem w_istore_n {i : Fin 4} {x : Int32} (hdg : decode (ze_cc E) pc = .ok (.istore_n i, 1)) (hi : Nat.blt (i : Nat) (ze_nL E) = true) (hno : z_nol lv (i : Nat) = true) (k : Wp E Q (pc + 1) (z_put lv (i : Nat) (.int x)) st m) : Wp E Q pc lv (.int x :: st) m := by
  intro p l e R s mi args below meth c D ca A b Z hA ad H locs ls h1 h2 h3 h4 h5 h6 h7
  have hx := hA.1
  have hb := hA.2.1
  refine lv_istore_n hx hb hdg rfl h7 (Nat.blt_eq.mp hi) rfl fun ls' hl' => ?_
  exact k p l e R s mi args below meth c D ca A b Z hA ad H locs ls' h1 h2 h3 (z_put_w h4 (z_ws_head h5)) (z_ws_tail h5) h6 (z_put_has hno hl')
theorem w_astore {i : Nat} {x : Nat} (hdg : decode (ze_cc E) pc = .ok (.astore i, 2)) (hi : Nat.blt i (ze_nL E) = true) (hno : z_nol lv i = true) (k : Wp E Q (pc + 2) (z_put lv i (.ref x)) st m) : Wp E Q pc lv (.ref x :: st) m := by
  intro p l e R s mi args below meth c D ca A b Z hA ad H locs ls h1 h2 h3 h4 h5 h6 h7
  have hx := hA.1
  have hb := hA.2.1
  refine lv_astore hx hb hdg h7 (Nat.blt_eq.mp hi) rfl fun ls' hl' => ?_
  exact k p l e R s mi args below meth c D ca A b Z hA ad H locs ls' h1 h2 h3 (z_put_w h4 (z_ws_head h5)) (z_ws_tail h5) h6 (z_put_has hno hl')
theorem w_astore_n {i : Fin 4} {x : Nat} (hdg : decode (ze_cc E) pc = .ok (.astore_n i, 1)) (hi : Nat.blt (i : Nat) (ze_nL E) = true) (hno : z_nol lv (i : Nat) = true) (k : Wp E Q (pc + 1) (z_put lv (i : Nat) (.ref x)) st m) : Wp E Q pc lv (.ref x :: st) m := by
  intro p l e R s mi args below meth c D ca A b Z hA ad H locs ls h1 h2 h3 h4 h5 h6 h7
  have hx := hA.1
  have hb := hA.2.1
  refine lv_astore_n hx hb hdg rfl h7 (Nat.blt_eq.mp hi) rfl fun ls' hl' => ?_
  exact k p l e R s mi args below meth c D ca A b Z hA ad H locs ls' h1 h2 h3 (z_put_w h4 (z_ws_head h5)) (z_ws_tail h5) h6 (z_put_has hno hl')
theorem w_lstore {i : Nat} {x : Int64} (hdg : decode (ze_cc E) pc = .ok (.lstore i, 2)) (hi : Nat.blt (i + 1) (ze_nL E) = true) (hno : z_nol lv i = true) (hn2 : z_non lv (i + 1) = true) (k : Wp E Q (pc + 2) (z_put lv i (.long x)) st m) : Wp E Q pc lv (.long x :: st) m := by
  intro p l e R s mi args below meth c D ca A b Z hA ad H locs ls h1 h2 h3 h4 h5 h6 h7
  have hx := hA.1
  have hb := hA.2.1
  refine lv_lstore hx hb hdg h7 (Nat.blt_eq.mp hi) rfl fun ls' hl' => ?_
  exact k p l e R s mi args below meth c D ca A b Z hA ad H locs ls' h1 h2 h3 (z_put_w h4 (z_ws_head h5)) (z_ws_tail h5) h6 (z_put_hasL hno hn2 hl')
theorem w_lstore_n {i : Fin 4} {x : Int64} (hdg : decode (ze_cc E) pc = .ok (.lstore_n i, 1)) (hi : Nat.blt ((i : Nat) + 1) (ze_nL E) = true) (hno : z_nol lv (i : Nat) = true) (hn2 : z_non lv ((i : Nat) + 1) = true) (k : Wp E Q (pc + 1) (z_put lv (i : Nat) (.long x)) st m) : Wp E Q pc lv (.long x :: st) m := by
  intro p l e R s mi args below meth c D ca A b Z hA ad H locs ls h1 h2 h3 h4 h5 h6 h7
  have hx := hA.1
  have hb := hA.2.1
  refine lv_lstore_n hx hb hdg rfl h7 (Nat.blt_eq.mp hi) rfl fun ls' hl' => ?_
  exact k p l e R s mi args below meth c D ca A b Z hA ad H locs ls' h1 h2 h3 (z_put_w h4 (z_ws_head h5)) (z_ws_tail h5) h6 (z_put_hasL hno hn2 hl')
theorem w_iinc {i : Nat} {n : Int} {x v : Int32} (hdg : decode (ze_cc E) pc = .ok (.iinc i n, 3)) (hl : z_get lv i = some (.int x)) (hv : x + Int32.ofInt n = v) (hi : Nat.blt i (ze_nL E) = true) (hno : z_nol lv i = true) (k : Wp E Q (pc + 3) (z_put lv i (.int v)) st m) : Wp E Q pc lv st m := by
  intro p l e R s mi args below meth c D ca A b Z hA ad H locs ls h1 h2 h3 h4 h5 h6 h7
  have hx := hA.1
  have hb := hA.2.1
  obtain ⟨kk, hkk⟩ := zl_pos (ad := ad) hl
  refine lv_iinc hx hb hdg h7 hkk hv (Nat.blt_eq.mp hi) rfl fun ls' hl' => ?_
  exact k p l e R s mi args below meth c D ca A b Z hA ad H locs ls' h1 h2 h3 (z_put_w (v := .int v) h4 trivial) h5 h6 (z_put_has (v := .int v) hno hl')
theorem w_iadd {x y : Int32} (hdg : decode (ze_cc E) pc = .ok (.iadd, 1)) (k : Wp E Q (pc + 1) lv (.int (x + y) :: st) m) : Wp E Q pc lv (.int y :: .int x :: st) m := by
  intro p l e R s mi args below meth c D ca A b Z hA ad H locs ls h1 h2 h3 h4 h5 h6 h7
  have hx := hA.1
  have hb := hA.2.1
  exact lv_iadd hx hb hdg (k p l e R s mi args below meth c D ca A b Z hA ad H locs ls h1 h2 h3 h4 (z_ws_cons trivial (z_ws_tail (z_ws_tail h5))) h6 h7)
theorem w_isub {x y : Int32} (hdg : decode (ze_cc E) pc = .ok (.isub, 1)) (k : Wp E Q (pc + 1) lv (.int (x - y) :: st) m) : Wp E Q pc lv (.int y :: .int x :: st) m := by
  intro p l e R s mi args below meth c D ca A b Z hA ad H locs ls h1 h2 h3 h4 h5 h6 h7
  have hx := hA.1
  have hb := hA.2.1
  exact lv_isub hx hb hdg (k p l e R s mi args below meth c D ca A b Z hA ad H locs ls h1 h2 h3 h4 (z_ws_cons trivial (z_ws_tail (z_ws_tail h5))) h6 h7)
theorem w_imul {x y : Int32} (hdg : decode (ze_cc E) pc = .ok (.imul, 1)) (k : Wp E Q (pc + 1) lv (.int (x * y) :: st) m) : Wp E Q pc lv (.int y :: .int x :: st) m := by
  intro p l e R s mi args below meth c D ca A b Z hA ad H locs ls h1 h2 h3 h4 h5 h6 h7
  have hx := hA.1
  have hb := hA.2.1
  exact lv_imul hx hb hdg (k p l e R s mi args below meth c D ca A b Z hA ad H locs ls h1 h2 h3 h4 (z_ws_cons trivial (z_ws_tail (z_ws_tail h5))) h6 h7)
theorem w_idiv {x y : Int32} (hdg : decode (ze_cc E) pc = .ok (.idiv, 1)) (hy : ¬ y = 0) (k : Wp E Q (pc + 1) lv (.int (x / y) :: st) m) : Wp E Q pc lv (.int y :: .int x :: st) m := by
  intro p l e R s mi args below meth c D ca A b Z hA ad H locs ls h1 h2 h3 h4 h5 h6 h7
  have hx := hA.1
  have hb := hA.2.1
  exact lv_idiv hx hb hdg hy (k p l e R s mi args below meth c D ca A b Z hA ad H locs ls h1 h2 h3 h4 (z_ws_cons trivial (z_ws_tail (z_ws_tail h5))) h6 h7)
theorem w_irem {x y : Int32} (hdg : decode (ze_cc E) pc = .ok (.irem, 1)) (hy : ¬ y = 0) (k : Wp E Q (pc + 1) lv (.int (x - x / y * y) :: st) m) : Wp E Q pc lv (.int y :: .int x :: st) m := by
  intro p l e R s mi args below meth c D ca A b Z hA ad H locs ls h1 h2 h3 h4 h5 h6 h7
  have hx := hA.1
  have hb := hA.2.1
  exact lv_irem hx hb hdg hy (k p l e R s mi args below meth c D ca A b Z hA ad H locs ls h1 h2 h3 h4 (z_ws_cons trivial (z_ws_tail (z_ws_tail h5))) h6 h7)
theorem w_ishr {x y : Int32} (hdg : decode (ze_cc E) pc = .ok (.ishr, 1)) (k : Wp E Q (pc + 1) lv (.int (x >>> (y &&& 31)) :: st) m) : Wp E Q pc lv (.int y :: .int x :: st) m := by
  intro p l e R s mi args below meth c D ca A b Z hA ad H locs ls h1 h2 h3 h4 h5 h6 h7
  have hx := hA.1
  have hb := hA.2.1
  exact lv_ishr hx hb hdg (k p l e R s mi args below meth c D ca A b Z hA ad H locs ls h1 h2 h3 h4 (z_ws_cons trivial (z_ws_tail (z_ws_tail h5))) h6 h7)
theorem w_iushr {x y : Int32} (hdg : decode (ze_cc E) pc = .ok (.iushr, 1)) (k : Wp E Q (pc + 1) lv (.int ((x.toUInt32 >>> (y.toUInt32 &&& Int32.toUInt32 31)).toInt32) :: st) m) : Wp E Q pc lv (.int y :: .int x :: st) m := by
  intro p l e R s mi args below meth c D ca A b Z hA ad H locs ls h1 h2 h3 h4 h5 h6 h7
  have hx := hA.1
  have hb := hA.2.1
  exact lv_iushr hx hb hdg rfl (k p l e R s mi args below meth c D ca A b Z hA ad H locs ls h1 h2 h3 h4 (z_ws_cons trivial (z_ws_tail (z_ws_tail h5))) h6 h7)
theorem w_iand {x y : Int32} (hdg : decode (ze_cc E) pc = .ok (.iand, 1)) (k : Wp E Q (pc + 1) lv (.int (x &&& y) :: st) m) : Wp E Q pc lv (.int y :: .int x :: st) m := by
  intro p l e R s mi args below meth c D ca A b Z hA ad H locs ls h1 h2 h3 h4 h5 h6 h7
  have hx := hA.1
  have hb := hA.2.1
  exact lv_iand hx hb hdg (k p l e R s mi args below meth c D ca A b Z hA ad H locs ls h1 h2 h3 h4 (z_ws_cons trivial (z_ws_tail (z_ws_tail h5))) h6 h7)
theorem w_land {x y : Int64} (hdg : decode (ze_cc E) pc = .ok (.land, 1)) (k : Wp E Q (pc + 1) lv (.long (x &&& y) :: st) m) : Wp E Q pc lv (.long y :: .long x :: st) m := by
  intro p l e R s mi args below meth c D ca A b Z hA ad H locs ls h1 h2 h3 h4 h5 h6 h7
  have hx := hA.1
  have hb := hA.2.1
  exact lv_land hx hb hdg (k p l e R s mi args below meth c D ca A b Z hA ad H locs ls h1 h2 h3 h4 (z_ws_cons trivial (z_ws_tail (z_ws_tail h5))) h6 h7)
theorem w_lor {x y : Int64} (hdg : decode (ze_cc E) pc = .ok (.lor, 1)) (k : Wp E Q (pc + 1) lv (.long (x ||| y) :: st) m) : Wp E Q pc lv (.long y :: .long x :: st) m := by
  intro p l e R s mi args below meth c D ca A b Z hA ad H locs ls h1 h2 h3 h4 h5 h6 h7
  have hx := hA.1
  have hb := hA.2.1
  exact lv_lor hx hb hdg (k p l e R s mi args below meth c D ca A b Z hA ad H locs ls h1 h2 h3 h4 (z_ws_cons trivial (z_ws_tail (z_ws_tail h5))) h6 h7)
theorem w_lxor {x y : Int64} (hdg : decode (ze_cc E) pc = .ok (.lxor, 1)) (k : Wp E Q (pc + 1) lv (.long (x ^^^ y) :: st) m) : Wp E Q pc lv (.long y :: .long x :: st) m := by
  intro p l e R s mi args below meth c D ca A b Z hA ad H locs ls h1 h2 h3 h4 h5 h6 h7
  have hx := hA.1
  have hb := hA.2.1
  exact lv_lxor hx hb hdg (k p l e R s mi args below meth c D ca A b Z hA ad H locs ls h1 h2 h3 h4 (z_ws_cons trivial (z_ws_tail (z_ws_tail h5))) h6 h7)
theorem w_lshl {x : Int64} {y : Int32} (hdg : decode (ze_cc E) pc = .ok (.lshl, 1)) (k : Wp E Q (pc + 1) lv (.long (x <<< (y.toInt64 &&& 63)) :: st) m) : Wp E Q pc lv (.int y :: .long x :: st) m := by
  intro p l e R s mi args below meth c D ca A b Z hA ad H locs ls h1 h2 h3 h4 h5 h6 h7
  have hx := hA.1
  have hb := hA.2.1
  exact lv_lshl hx hb hdg rfl (k p l e R s mi args below meth c D ca A b Z hA ad H locs ls h1 h2 h3 h4 (z_ws_cons trivial (z_ws_tail (z_ws_tail h5))) h6 h7)
theorem w_lushr {x : Int64} {y : Int32} (hdg : decode (ze_cc E) pc = .ok (.lushr, 1)) (k : Wp E Q (pc + 1) lv (.long ((x.toUInt64 >>> (y.toInt64.toUInt64 &&& Int64.toUInt64 63)).toInt64) :: st) m) : Wp E Q pc lv (.int y :: .long x :: st) m := by
  intro p l e R s mi args below meth c D ca A b Z hA ad H locs ls h1 h2 h3 h4 h5 h6 h7
  have hx := hA.1
  have hb := hA.2.1
  exact lv_lushr hx hb hdg rfl (k p l e R s mi args below meth c D ca A b Z hA ad H locs ls h1 h2 h3 h4 (z_ws_cons trivial (z_ws_tail (z_ws_tail h5))) h6 h7)
theorem w_lcmp {x y : Int64} (hdg : decode (ze_cc E) pc = .ok (.lcmp, 1)) (k : Wp E Q (pc + 1) lv (.int (lg_cmp x y) :: st) m) : Wp E Q pc lv (.long y :: .long x :: st) m := by
  intro p l e R s mi args below meth c D ca A b Z hA ad H locs ls h1 h2 h3 h4 h5 h6 h7
  have hx := hA.1
  have hb := hA.2.1
  exact W.lcmp hx hb hdg (k p l e R s mi args below meth c D ca A b Z hA ad H locs ls h1 h2 h3 h4 (z_ws_cons trivial (z_ws_tail (z_ws_tail h5))) h6 h7)
theorem w_ineg {x : Int32} (hdg : decode (ze_cc E) pc = .ok (.ineg, 1)) (k : Wp E Q (pc + 1) lv (.int (-x) :: st) m) : Wp E Q pc lv (.int x :: st) m := by
  intro p l e R s mi args below meth c D ca A b Z hA ad H locs ls h1 h2 h3 h4 h5 h6 h7
  have hx := hA.1
  have hb := hA.2.1
  exact lv_ineg hx hb hdg (k p l e R s mi args below meth c D ca A b Z hA ad H locs ls h1 h2 h3 h4 (z_ws_cons trivial (z_ws_tail h5)) h6 h7)
theorem w_dup {v : Value} (hdg : decode (ze_cc E) pc = .ok (.dup, 1)) (hv : v.category = 1) (k : Wp E Q (pc + 1) lv (v :: v :: st) m) : Wp E Q pc lv (v :: st) m := by
  intro p l e R s mi args below meth c D ca A b Z hA ad H locs ls h1 h2 h3 h4 h5 h6 h7
  have hx := hA.1
  have hb := hA.2.1
  exact lv_dup hx hb hdg (by rw [z_cat]; exact hv) (k p l e R s mi args below meth c D ca A b Z hA ad H locs ls h1 h2 h3 h4 (z_ws_cons (z_ws_head h5) h5) h6 h7)
theorem w_dup2 {v w : Value} (hdg : decode (ze_cc E) pc = .ok (.dup2, 1)) (hv : v.category = 1) (hw : w.category = 1) (k : Wp E Q (pc + 1) lv (v :: w :: v :: w :: st) m) : Wp E Q pc lv (v :: w :: st) m := by
  intro p l e R s mi args below meth c D ca A b Z hA ad H locs ls h1 h2 h3 h4 h5 h6 h7
  have hx := hA.1
  have hb := hA.2.1
  exact lv_dup2_11 hx hb hdg (by rw [z_cat]; exact hv) (by rw [z_cat]; exact hw) (k p l e R s mi args below meth c D ca A b Z hA ad H locs ls h1 h2 h3 h4 (z_ws_cons (z_ws_head h5) (z_ws_cons (z_ws_head (z_ws_tail h5)) h5)) h6 h7)
theorem w_pop {v : Value} (hdg : decode (ze_cc E) pc = .ok (.pop, 1)) (hv : v.category = 1) (k : Wp E Q (pc + 1) lv st m) : Wp E Q pc lv (v :: st) m := by
  intro p l e R s mi args below meth c D ca A b Z hA ad H locs ls h1 h2 h3 h4 h5 h6 h7
  have hx := hA.1
  have hb := hA.2.1
  exact lv_pop hx hb hdg (by rw [z_cat]; exact hv) (k p l e R s mi args below meth c D ca A b Z hA ad H locs ls h1 h2 h3 h4 (z_ws_tail h5) h6 h7)
theorem w_goto {off : Int} (tgt : Nat) (hdg : decode (ze_cc E) pc = .ok (.goto off, 3)) (ht : (pc : Int) + off = (tgt : Int)) (k : Wp E Q tgt lv st m) : Wp E Q pc lv st m := by
  intro p l e R s mi args below meth c D ca A b Z hA ad H locs ls h1 h2 h3 h4 h5 h6 h7
  have hx := hA.1
  have hb := hA.2.1
  exact lv_goto hx hb hdg ht (k p l e R s mi args below meth c D ca A b Z hA ad H locs ls h1 h2 h3 h4 h5 h6 h7)
theorem w_if_eq {x : Int32} {off : Int} (tgt : Nat) (hdg : decode (ze_cc E) pc = .ok (.ifCond .eq off, 3)) (ht : (pc : Int) + off = (tgt : Int)) (kt : x = 0 → Wp E Q tgt lv st m) (kf : ¬ x = 0 → Wp E Q (pc + 3) lv st m) : Wp E Q pc lv (.int x :: st) m := by
  intro p l e R s mi args below meth c D ca A b Z hA ad H locs ls h1 h2 h3 h4 h5 h6 h7
  have hx := hA.1
  have hb := hA.2.1
  exact lv_if_eq hx hb hdg ht (fun q => kt q p l e R s mi args below meth c D ca A b Z hA ad H locs ls h1 h2 h3 h4 (z_ws_tail h5) h6 h7) (fun q => kf q p l e R s mi args below meth c D ca A b Z hA ad H locs ls h1 h2 h3 h4 (z_ws_tail h5) h6 h7)
theorem w_icmp_eq {x y : Int32} {off : Int} (tgt : Nat) (hdg : decode (ze_cc E) pc = .ok (.if_icmp .eq off, 3)) (ht : (pc : Int) + off = (tgt : Int)) (kt : x = y → Wp E Q tgt lv st m) (kf : ¬ x = y → Wp E Q (pc + 3) lv st m) : Wp E Q pc lv (.int y :: .int x :: st) m := by
  intro p l e R s mi args below meth c D ca A b Z hA ad H locs ls h1 h2 h3 h4 h5 h6 h7
  have hx := hA.1
  have hb := hA.2.1
  exact lv_icmp_eq hx hb hdg ht (fun q => kt q p l e R s mi args below meth c D ca A b Z hA ad H locs ls h1 h2 h3 h4 (z_ws_tail (z_ws_tail h5)) h6 h7) (fun q => kf q p l e R s mi args below meth c D ca A b Z hA ad H locs ls h1 h2 h3 h4 (z_ws_tail (z_ws_tail h5)) h6 h7)
theorem w_if_ne {x : Int32} {off : Int} (tgt : Nat) (hdg : decode (ze_cc E) pc = .ok (.ifCond .ne off, 3)) (ht : (pc : Int) + off = (tgt : Int)) (kt : ¬ x = 0 → Wp E Q tgt lv st m) (kf : x = 0 → Wp E Q (pc + 3) lv st m) : Wp E Q pc lv (.int x :: st) m := by
  intro p l e R s mi args below meth c D ca A b Z hA ad H locs ls h1 h2 h3 h4 h5 h6 h7
  have hx := hA.1
  have hb := hA.2.1
  exact lv_if_ne hx hb hdg ht (fun q => kt q p l e R s mi args below meth c D ca A b Z hA ad H locs ls h1 h2 h3 h4 (z_ws_tail h5) h6 h7) (fun q => kf q p l e R s mi args below meth c D ca A b Z hA ad H locs ls h1 h2 h3 h4 (z_ws_tail h5) h6 h7)
theorem w_icmp_ne {x y : Int32} {off : Int} (tgt : Nat) (hdg : decode (ze_cc E) pc = .ok (.if_icmp .ne off, 3)) (ht : (pc : Int) + off = (tgt : Int)) (kt : ¬ x = y → Wp E Q tgt lv st m) (kf : x = y → Wp E Q (pc + 3) lv st m) : Wp E Q pc lv (.int y :: .int x :: st) m := by
  intro p l e R s mi args below meth c D ca A b Z hA ad H locs ls h1 h2 h3 h4 h5 h6 h7
  have hx := hA.1
  have hb := hA.2.1
  exact lv_icmp_ne hx hb hdg ht (fun q => kt q p l e R s mi args below meth c D ca A b Z hA ad H locs ls h1 h2 h3 h4 (z_ws_tail (z_ws_tail h5)) h6 h7) (fun q => kf q p l e R s mi args below meth c D ca A b Z hA ad H locs ls h1 h2 h3 h4 (z_ws_tail (z_ws_tail h5)) h6 h7)
theorem w_if_lt {x : Int32} {off : Int} (tgt : Nat) (hdg : decode (ze_cc E) pc = .ok (.ifCond .lt off, 3)) (ht : (pc : Int) + off = (tgt : Int)) (kt : x < 0 → Wp E Q tgt lv st m) (kf : ¬ x < 0 → Wp E Q (pc + 3) lv st m) : Wp E Q pc lv (.int x :: st) m := by
  intro p l e R s mi args below meth c D ca A b Z hA ad H locs ls h1 h2 h3 h4 h5 h6 h7
  have hx := hA.1
  have hb := hA.2.1
  exact lv_if_lt hx hb hdg ht (fun q => kt q p l e R s mi args below meth c D ca A b Z hA ad H locs ls h1 h2 h3 h4 (z_ws_tail h5) h6 h7) (fun q => kf q p l e R s mi args below meth c D ca A b Z hA ad H locs ls h1 h2 h3 h4 (z_ws_tail h5) h6 h7)
theorem w_icmp_lt {x y : Int32} {off : Int} (tgt : Nat) (hdg : decode (ze_cc E) pc = .ok (.if_icmp .lt off, 3)) (ht : (pc : Int) + off = (tgt : Int)) (kt : x < y → Wp E Q tgt lv st m) (kf : ¬ x < y → Wp E Q (pc + 3) lv st m) : Wp E Q pc lv (.int y :: .int x :: st) m := by
  intro p l e R s mi args below meth c D ca A b Z hA ad H locs ls h1 h2 h3 h4 h5 h6 h7
  have hx := hA.1
  have hb := hA.2.1
  exact lv_icmp_lt hx hb hdg ht (fun q => kt q p l e R s mi args below meth c D ca A b Z hA ad H locs ls h1 h2 h3 h4 (z_ws_tail (z_ws_tail h5)) h6 h7) (fun q => kf q p l e R s mi args below meth c D ca A b Z hA ad H locs ls h1 h2 h3 h4 (z_ws_tail (z_ws_tail h5)) h6 h7)
theorem w_if_ge {x : Int32} {off : Int} (tgt : Nat) (hdg : decode (ze_cc E) pc = .ok (.ifCond .ge off, 3)) (ht : (pc : Int) + off = (tgt : Int)) (kt : 0 ≤ x → Wp E Q tgt lv st m) (kf : ¬ 0 ≤ x → Wp E Q (pc + 3) lv st m) : Wp E Q pc lv (.int x :: st) m := by
  intro p l e R s mi args below meth c D ca A b Z hA ad H locs ls h1 h2 h3 h4 h5 h6 h7
  have hx := hA.1
  have hb := hA.2.1
  exact lv_if_ge hx hb hdg ht (fun q => kt q p l e R s mi args below meth c D ca A b Z hA ad H locs ls h1 h2 h3 h4 (z_ws_tail h5) h6 h7) (fun q => kf q p l e R s mi args below meth c D ca A b Z hA ad H locs ls h1 h2 h3 h4 (z_ws_tail h5) h6 h7)
theorem w_icmp_ge {x y : Int32} {off : Int} (tgt : Nat) (hdg : decode (ze_cc E) pc = .ok (.if_icmp .ge off, 3)) (ht : (pc : Int) + off = (tgt : Int)) (kt : y ≤ x → Wp E Q tgt lv st m) (kf : ¬ y ≤ x → Wp E Q (pc + 3) lv st m) : Wp E Q pc lv (.int y :: .int x :: st) m := by
  intro p l e R s mi args below meth c D ca A b Z hA ad H locs ls h1 h2 h3 h4 h5 h6 h7
  have hx := hA.1
  have hb := hA.2.1
  exact lv_icmp_ge hx hb hdg ht (fun q => kt q p l e R s mi args below meth c D ca A b Z hA ad H locs ls h1 h2 h3 h4 (z_ws_tail (z_ws_tail h5)) h6 h7) (fun q => kf q p l e R s mi args below meth c D ca A b Z hA ad H locs ls h1 h2 h3 h4 (z_ws_tail (z_ws_tail h5)) h6 h7)
theorem w_if_gt {x : Int32} {off : Int} (tgt : Nat) (hdg : decode (ze_cc E) pc = .ok (.ifCond .gt off, 3)) (ht : (pc : Int) + off = (tgt : Int)) (kt : 0 < x → Wp E Q tgt lv st m) (kf : ¬ 0 < x → Wp E Q (pc + 3) lv st m) : Wp E Q pc lv (.int x :: st) m := by
  intro p l e R s mi args below meth c D ca A b Z hA ad H locs ls h1 h2 h3 h4 h5 h6 h7
  have hx := hA.1
  have hb := hA.2.1
  exact lv_if_gt hx hb hdg ht (fun q => kt q p l e R s mi args below meth c D ca A b Z hA ad H locs ls h1 h2 h3 h4 (z_ws_tail h5) h6 h7) (fun q => kf q p l e R s mi args below meth c D ca A b Z hA ad H locs ls h1 h2 h3 h4 (z_ws_tail h5) h6 h7)
theorem w_icmp_gt {x y : Int32} {off : Int} (tgt : Nat) (hdg : decode (ze_cc E) pc = .ok (.if_icmp .gt off, 3)) (ht : (pc : Int) + off = (tgt : Int)) (kt : y < x → Wp E Q tgt lv st m) (kf : ¬ y < x → Wp E Q (pc + 3) lv st m) : Wp E Q pc lv (.int y :: .int x :: st) m := by
  intro p l e R s mi args below meth c D ca A b Z hA ad H locs ls h1 h2 h3 h4 h5 h6 h7
  have hx := hA.1
  have hb := hA.2.1
  exact lv_icmp_gt hx hb hdg ht (fun q => kt q p l e R s mi args below meth c D ca A b Z hA ad H locs ls h1 h2 h3 h4 (z_ws_tail (z_ws_tail h5)) h6 h7) (fun q => kf q p l e R s mi args below meth c D ca A b Z hA ad H locs ls h1 h2 h3 h4 (z_ws_tail (z_ws_tail h5)) h6 h7)
theorem w_if_le {x : Int32} {off : Int} (tgt : Nat) (hdg : decode (ze_cc E) pc = .ok (.ifCond .le off, 3)) (ht : (pc : Int) + off = (tgt : Int)) (kt : x ≤ 0 → Wp E Q tgt lv st m) (kf : ¬ x ≤ 0 → Wp E Q (pc + 3) lv st m) : Wp E Q pc lv (.int x :: st) m := by
  intro p l e R s mi args below meth c D ca A b Z hA ad H locs ls h1 h2 h3 h4 h5 h6 h7
  have hx := hA.1
  have hb := hA.2.1
  exact lv_if_le hx hb hdg ht (fun q => kt q p l e R s mi args below meth c D ca A b Z hA ad H locs ls h1 h2 h3 h4 (z_ws_tail h5) h6 h7) (fun q => kf q p l e R s mi args below meth c D ca A b Z hA ad H locs ls h1 h2 h3 h4 (z_ws_tail h5) h6 h7)
theorem w_icmp_le {x y : Int32} {off : Int} (tgt : Nat) (hdg : decode (ze_cc E) pc = .ok (.if_icmp .le off, 3)) (ht : (pc : Int) + off = (tgt : Int)) (kt : x ≤ y → Wp E Q tgt lv st m) (kf : ¬ x ≤ y → Wp E Q (pc + 3) lv st m) : Wp E Q pc lv (.int y :: .int x :: st) m := by
  intro p l e R s mi args below meth c D ca A b Z hA ad H locs ls h1 h2 h3 h4 h5 h6 h7
  have hx := hA.1
  have hb := hA.2.1
  exact lv_icmp_le hx hb hdg ht (fun q => kt q p l e R s mi args below meth c D ca A b Z hA ad H locs ls h1 h2 h3 h4 (z_ws_tail (z_ws_tail h5)) h6 h7) (fun q => kf q p l e R s mi args below meth c D ca A b Z hA ad H locs ls h1 h2 h3 h4 (z_ws_tail (z_ws_tail h5)) h6 h7)
theorem w_ifnull_r {x : Nat} {off : Int} (hdg : decode (ze_cc E) pc = .ok (.ifnull off, 3)) (k : Wp E Q (pc + 3) lv st m) : Wp E Q pc lv (.ref x :: st) m := by
  intro p l e R s mi args below meth c D ca A b Z hA ad H locs ls h1 h2 h3 h4 h5 h6 h7
  have hx := hA.1
  have hb := hA.2.1
  exact lv_ifnull hx hb hdg (k p l e R s mi args below meth c D ca A b Z hA ad H locs ls h1 h2 h3 h4 (z_ws_tail h5) h6 h7)
theorem w_ifnull_n {off : Int} (tgt : Nat) (hdg : decode (ze_cc E) pc = .ok (.ifnull off, 3)) (ht : (pc : Int) + off = (tgt : Int)) (k : Wp E Q tgt lv st m) : Wp E Q pc lv (.null :: st) m := by
  intro p l e R s mi args below meth c D ca A b Z hA ad H locs ls h1 h2 h3 h4 h5 h6 h7
  have hx := hA.1
  have hb := hA.2.1
  exact lv_ifnullN hx hb hdg ht (k p l e R s mi args below meth c D ca A b Z hA ad H locs ls h1 h2 h3 h4 (z_ws_tail h5) h6 h7)
theorem w_ifnonnull_r {x : Nat} {off : Int} (tgt : Nat) (hdg : decode (ze_cc E) pc = .ok (.ifnonnull off, 3)) (ht : (pc : Int) + off = (tgt : Int)) (k : Wp E Q tgt lv st m) : Wp E Q pc lv (.ref x :: st) m := by
  intro p l e R s mi args below meth c D ca A b Z hA ad H locs ls h1 h2 h3 h4 h5 h6 h7
  have hx := hA.1
  have hb := hA.2.1
  exact lv_ifnonnull hx hb hdg ht (k p l e R s mi args below meth c D ca A b Z hA ad H locs ls h1 h2 h3 h4 (z_ws_tail h5) h6 h7)
theorem w_ifnonnull_n {off : Int} (hdg : decode (ze_cc E) pc = .ok (.ifnonnull off, 3)) (k : Wp E Q (pc + 3) lv st m) : Wp E Q pc lv (.null :: st) m := by
  intro p l e R s mi args below meth c D ca A b Z hA ad H locs ls h1 h2 h3 h4 h5 h6 h7
  have hx := hA.1
  have hb := hA.2.1
  exact lv_ifnonnullN hx hb hdg (k p l e R s mi args below meth c D ca A b Z hA ad H locs ls h1 h2 h3 h4 (z_ws_tail h5) h6 h7)
theorem w_getI {idx id ci kf : Nat} (hdg : decode (ze_cc E) pc = .ok (.getfield idx, 3)) (hf : zm_fl (ze_own E) idx ci kf) (hn : id < m.2.2.2) (hs : zm_sh id = .inl ci) (ht : zm_T ci kf = .int ∨ zm_T ci kf = .boolean) (k : Wp E Q (pc + 3) lv (.int (m.1 id kf) :: st) m) : Wp E Q pc lv (.ref id :: st) m := by
  intro p l e R s mi args below meth c D ca A b Z hA ad H locs ls h1 h2 h3 h4 h5 h6 h7
  have hx := hA.1
  have hb := hA.2.1
  refine va_get hx hb hA.2.2.2.2.1 (zm_lays hf.1) hA.2.2.2.1 hA.2.2.2.2.2.2.2.2.1 h2.1 id (zm_W_obj ad ca m hn hs) (zm_cl hf.1) kf hf.2.1 (hA.2.2.2.2.1 _ hf.2.2) (fun _ q => q) (v := .int (m.1 id kf)) (zm_fI ad m id hf.2.1 ht) hdg ?_
  exact k p l e R s mi args below meth c D ca A b Z hA ad H locs ls h1 h2 h3 h4 (z_ws_cons trivial (z_ws_tail h5)) h6 h7
theorem w_getR {idx id ci kf j : Nat} (hdg : decode (ze_cc E) pc = .ok (.getfield idx, 3)) (hf : zm_fl (ze_own E) idx ci kf) (hn : id < m.2.2.2) (hs : zm_sh id = .inl ci) (ht : zm_rt (zm_T ci kf) = true) (hj : m.2.2.1 id kf = some j) (k : Wp E Q (pc + 3) lv (.ref j :: st) m) : Wp E Q pc lv (.ref id :: st) m := by
  intro p l e R s mi args below meth c D ca A b Z hA ad H locs ls h1 h2 h3 h4 h5 h6 h7
  have hx := hA.1
  have hb := hA.2.1
  refine va_get hx hb hA.2.2.2.2.1 (zm_lays hf.1) hA.2.2.2.1 hA.2.2.2.2.2.2.2.2.1 h2.1 id (zm_W_obj ad ca m hn hs) (zm_cl hf.1) kf hf.2.1 (hA.2.2.2.2.1 _ hf.2.2) (fun _ q => q) (v := .ref (ad j)) (zm_fR ad m id hf.2.1 ht hj) hdg ?_
  exact k p l e R s mi args below meth c D ca A b Z hA ad H locs ls h1 h2 h3 h4 (z_ws_cons (Or.inl (h2.2.2.1 _ _ _ hj)) (z_ws_tail h5)) h6 h7
theorem w_putI {idx id ci kf : Nat} {x : Int32} (hdg : decode (ze_cc E) pc = .ok (.putfield idx, 3)) (hf : zm_fl (ze_own E) idx ci kf) (hn : id < m.2.2.2) (hs : zm_sh id = .inl ci) (hfin : (zm_F ci kf).2.2.2 = false) (ht : zm_T ci kf = .int ∨ (zm_T ci kf = .boolean ∧ (x = 0 ∨ x = 1))) (k : Wp E Q (pc + 3) lv st (z_uI m id kf x)) : Wp E Q pc lv (.int x :: .ref id :: st) m := by
  intro p l e R s mi args below meth c D ca A b Z hA ad H locs ls h1 h2 h3 h4 h5 h6 h7
  have hx := hA.1
  have hb := hA.2.1
  obtain ⟨n1, n2⟩ := zm_nI ht
  refine va_put hx hb hA.2.2.2.2.1 (zm_lays hf.1) (zm_T ci) (zm_tyok hf.1) (zm_nm hf.1) hA.2.2.2.1 hA.2.2.2.2.2.2.2.2.1 h2.1 h2.2.1 h3 id (zm_W_obj ad ca m hn hs) (zm_cl hf.1) kf hf.2.1 (hA.2.2.2.2.1 _ hf.2.2) (fun _ q => q) hfin (zm_tyok hf.1 kf hf.2.1) n1 n2 (by simp; exact hf.2.1) hdg fun H1 locs1 q1 q2 q3 => ?_
  rw [show z_c ad (.int x) = .int x from rfl, zm_setI ad ca hn hs hf.2.1 (ht.imp (fun q => q) And.left)] at q1 q2
  exact k p l e R s mi args below meth c D ca A b Z hA ad H1 locs1 ls h1 ⟨q1, q2, h2.2.2⟩ q3 h4 (z_ws_tail (z_ws_tail h5)) h6 h7
theorem w_putFI {idx id ci kf : Nat} {x : Int32} (hdg : decode (ze_cc E) pc = .ok (.putfield idx, 3)) (hf : zm_fl (ze_own E) idx ci kf) (hn : id < m.2.2.2) (hs : zm_sh id = .inl ci) (hfin : (zm_F ci kf).2.2.2 = true) (hi : ze_ini E = true) (ho : (zm_F ci kf).1 = ze_own E) (ht : zm_T ci kf = .int) (k : Wp E Q (pc + 3) lv st (z_uI m id kf x)) : Wp E Q pc lv (.int x :: .ref id :: st) m := by
  intro p l e R s mi args below meth c D ca A b Z hA ad H locs ls h1 h2 h3 h4 h5 h6 h7
  have hx := hA.1
  have hb := hA.2.1
  obtain ⟨n1, n2⟩ := zm_nI (x := x) (Or.inl ht)
  refine va_putF hx hb hA.2.2.2.2.1 (zm_lays hf.1) (zm_T ci) (zm_tyok hf.1) (zm_nm hf.1) hA.2.2.2.1 hA.2.2.2.2.2.2.2.2.1 h2.1 h2.2.1 h3 id (zm_W_obj ad ca m hn hs) (zm_cl hf.1) kf hf.2.1 (hA.2.2.2.2.1 _ hf.2.2) (fun _ q => q) hfin (hA.2.2.2.2.2.2.2.2.2.2.2.1 hi) ho (zm_tyok hf.1 kf hf.2.1) n1 n2 (by simp; exact hf.2.1) hdg fun H1 locs1 q1 q2 q3 => ?_
  rw [show z_c ad (.int x) = .int x from rfl, zm_setI ad ca hn hs hf.2.1 (Or.inl ht)] at q1 q2
  exact k p l e R s mi args below meth c D ca A b Z hA ad H1 locs1 ls h1 ⟨q1, q2, h2.2.2⟩ q3 h4 (z_ws_tail (z_ws_tail h5)) h6 h7
theorem w_putFR {idx id ci kf j : Nat} (hdg : decode (ze_cc E) pc = .ok (.putfield idx, 3)) (hf : zm_fl (ze_own E) idx ci kf) (hn : id < m.2.2.2) (hs : zm_sh id = .inl ci) (hfin : (zm_F ci kf).2.2.2 = true) (hi : ze_ini E = true) (ho : (zm_F ci kf).1 = ze_own E) (ht : zm_rt (zm_T ci kf) = true) (hj : j < m.2.2.2) (k : Wp E Q (pc + 3) lv st (z_uR m id kf j)) : Wp E Q pc lv (.ref j :: .ref id :: st) m := by
  intro p l e R s mi args below meth c D ca A b Z hA ad H locs ls h1 h2 h3 h4 h5 h6 h7
  have hx := hA.1
  have hb := hA.2.1
  obtain ⟨n1, n2⟩ := zm_nR (ad j) ht
  refine va_putF hx hb hA.2.2.2.2.1 (zm_lays hf.1) (zm_T ci) (zm_tyok hf.1) (zm_nm hf.1) hA.2.2.2.1 hA.2.2.2.2.2.2.2.2.1 h2.1 h2.2.1 h3 id (zm_W_obj ad ca m hn hs) (zm_cl hf.1) kf hf.2.1 (hA.2.2.2.2.1 _ hf.2.2) (fun _ q => q) hfin (hA.2.2.2.2.2.2.2.2.2.2.2.1 hi) ho (zm_tyok hf.1 kf hf.2.1) n1 n2 (by simp; exact hf.2.1) hdg fun H1 locs1 q1 q2 q3 => ?_
  rw [show z_c ad (.ref j) = .ref (ad j) from rfl, zm_setR ad ca hn hs hf.2.1 ht] at q1 q2
  exact k p l e R s mi args below meth c D ca A b Z hA ad H1 locs1 ls h1 ⟨q1, q2, zm_wf_uR h2.2.2 hj⟩ q3 h4 (z_ws_tail (z_ws_tail h5)) h6 h7
theorem w_iald {id n : Nat} {i : Int32} (hdg : decode (ze_cc E) pc = .ok (.iaload, 1)) (hn : id < m.2.2.2) (hs : zm_sh id = .inr (.int, n)) (hi : vp_in i n) (k : Wp E Q (pc + 1) lv (.int (m.1 id i.toNatClampNeg) :: st) m) : Wp E Q pc lv (.int i :: .ref id :: st) m := by
  intro p l e R s mi args below meth c D ca A b Z hA ad H locs ls h1 h2 h3 h4 h5 h6 h7
  have hx := hA.1
  have hb := hA.2.1
  refine va_iald hx hb hA.2.2.2.2.2.2.2.2.1 h2.1 id 0 (zm_W_arr ad ca m hn hs) rfl hi hdg ?_
  exact k p l e R s mi args below meth c D ca A b Z hA ad H locs ls h1 h2 h3 h4 (z_ws_cons trivial (z_ws_tail (z_ws_tail h5))) h6 h7
theorem w_zald {id n : Nat} {i : Int32} (hdg : decode (ze_cc E) pc = .ok (.baload, 1)) (hn : id < m.2.2.2) (hs : zm_sh id = .inr (.boolean, n)) (hi : vp_in i n) (k : Wp E Q (pc + 1) lv (.int (m.1 id i.toNatClampNeg) :: st) m) : Wp E Q pc lv (.int i :: .ref id :: st) m := by
  intro p l e R s mi args below meth c D ca A b Z hA ad H locs ls h1 h2 h3 h4 h5 h6 h7
  have hx := hA.1
  have hb := hA.2.1
  refine va_zald hx hb hA.2.2.2.2.2.2.2.2.1 h2.1 id 1 (zm_W_arr ad ca m hn hs) rfl hi hdg ?_
  exact k p l e R s mi args below meth c D ca A b Z hA ad H locs ls h1 h2 h3 h4 (z_ws_cons trivial (z_ws_tail (z_ws_tail h5))) h6 h7
theorem w_lald {id n : Nat} {i : Int32} (hdg : decode (ze_cc E) pc = .ok (.laload, 1)) (hn : id < m.2.2.2) (hs : zm_sh id = .inr (.long, n)) (hi : vp_in i n) (k : Wp E Q (pc + 1) lv (.long (m.2.1 id i.toNatClampNeg) :: st) m) : Wp E Q pc lv (.int i :: .ref id :: st) m := by
  intro p l e R s mi args below meth c D ca A b Z hA ad H locs ls h1 h2 h3 h4 h5 h6 h7
  have hx := hA.1
  have hb := hA.2.1
  refine va_lald hx hb hA.2.2.2.2.2.2.2.2.1 h2.1 id 2 (zm_W_arr ad ca m hn hs) rfl hi hdg ?_
  exact k p l e R s mi args below meth c D ca A b Z hA ad H locs ls h1 h2 h3 h4 (z_ws_cons trivial (z_ws_tail (z_ws_tail h5))) h6 h7
theorem w_aald {id n j : Nat} {i : Int32} (hdg : decode (ze_cc E) pc = .ok (.aaload, 1)) (hn : id < m.2.2.2) (hs : zm_sh id = .inr (.object "TornReeds$Bit", n)) (hi : vp_in i n) (hj : m.2.2.1 id i.toNatClampNeg = some j) (k : Wp E Q (pc + 1) lv (.ref j :: st) m) : Wp E Q pc lv (.int i :: .ref id :: st) m := by
  intro p l e R s mi args below meth c D ca A b Z hA ad H locs ls h1 h2 h3 h4 h5 h6 h7
  have hx := hA.1
  have hb := hA.2.1
  refine va_aldq hx hb hA.2.2.2.2.2.2.2.2.1 h2.1 id 3 (zm_W_arr ad ca m hn hs) rfl hi hdg ?_
  rw [hj]
  exact k p l e R s mi args below meth c D ca A b Z hA ad H locs ls h1 h2 h3 h4 (z_ws_cons (Or.inl (h2.2.2.1 _ _ _ hj)) (z_ws_tail (z_ws_tail h5))) h6 h7
theorem w_gald {id n j : Nat} {i : Int32} (hdg : decode (ze_cc E) pc = .ok (.aaload, 1)) (hn : id < m.2.2.2) (hs : zm_sh id = .inr (.array .long, n)) (hi : vp_in i n) (hj : m.2.2.1 id i.toNatClampNeg = some j) (k : Wp E Q (pc + 1) lv (.ref j :: st) m) : Wp E Q pc lv (.int i :: .ref id :: st) m := by
  intro p l e R s mi args below meth c D ca A b Z hA ad H locs ls h1 h2 h3 h4 h5 h6 h7
  have hx := hA.1
  have hb := hA.2.1
  have ha := zm_W_arr ad ca m hn hs
  have hlt : i.toNatClampNeg < n := Nat.not_le.mp fun q => hi (Or.inr q)
  refine W.aald (v := .ref (ad j)) (ty := .array .long) hx hb (h2.1 id _ ha) ((hA.2.2.2.2.2.2.2.2.1.2 4 _ rfl).1 n (fun q => va_rf ((m.2.2.1 id q).map ad))) rfl (fun q => by cases q) (by show ¬ (i < 0 ∨ (arrV _ _ _).slots.size ≤ _); rw [arrV_size]; exact hi) (by show (arrV (ca (.array .long)) n (fun q => va_rf ((m.2.2.1 id q).map ad))).slots[_]? = _; rw [arrV_read _ _ hlt]; simp only [hj]; rfl) rfl rfl hdg ?_
  exact k p l e R s mi args below meth c D ca A b Z hA ad H locs ls h1 h2 h3 h4 (z_ws_cons (Or.inl (h2.2.2.1 _ _ _ hj)) (z_ws_tail (z_ws_tail h5))) h6 h7
theorem w_iast {id n : Nat} {i x : Int32} (hdg : decode (ze_cc E) pc = .ok (.iastore, 1)) (hn : id < m.2.2.2) (hs : zm_sh id = .inr (.int, n)) (hi : vp_in i n) (k : Wp E Q (pc + 1) lv st (z_uI m id i.toNatClampNeg x)) : Wp E Q pc lv (.int x :: .int i :: .ref id :: st) m := by
  intro p l e R s mi args below meth c D ca A b Z hA ad H locs ls h1 h2 h3 h4 h5 h6 h7
  have hx := hA.1
  have hb := hA.2.1
  refine va_iast hx hb hA.2.2.2.2.2.2.2.2.1 h2.1 h2.2.1 h3 id 0 (zm_W_arr ad ca m hn hs) rfl hi hdg fun H1 locs1 q1 q2 q3 => ?_
  rw [zm_setAI ad ca hn hs] at q1 q2
  exact k p l e R s mi args below meth c D ca A b Z hA ad H1 locs1 ls h1 ⟨q1, q2, h2.2.2⟩ q3 h4 (z_ws_tail (z_ws_tail (z_ws_tail h5))) h6 h7
theorem w_zast {id n : Nat} {i x : Int32} (hdg : decode (ze_cc E) pc = .ok (.bastore, 1)) (hn : id < m.2.2.2) (hs : zm_sh id = .inr (.boolean, n)) (hi : vp_in i n) (h01 : x = 0 ∨ x = 1) (k : Wp E Q (pc + 1) lv st (z_uI m id i.toNatClampNeg x)) : Wp E Q pc lv (.int x :: .int i :: .ref id :: st) m := by
  intro p l e R s mi args below meth c D ca A b Z hA ad H locs ls h1 h2 h3 h4 h5 h6 h7
  have hx := hA.1
  have hb := hA.2.1
  refine va_zast hx hb hA.2.2.2.2.2.2.2.2.1 h2.1 h2.2.1 h3 id 1 (zm_W_arr ad ca m hn hs) rfl hi hdg fun H1 locs1 q1 q2 q3 => ?_
  rw [zm_narZ h01, zm_setAZ ad ca hn hs] at q1 q2
  exact k p l e R s mi args below meth c D ca A b Z hA ad H1 locs1 ls h1 ⟨q1, q2, h2.2.2⟩ q3 h4 (z_ws_tail (z_ws_tail (z_ws_tail h5))) h6 h7
theorem w_last {id n : Nat} {i : Int32} {x : Int64} (hdg : decode (ze_cc E) pc = .ok (.lastore, 1)) (hn : id < m.2.2.2) (hs : zm_sh id = .inr (.long, n)) (hi : vp_in i n) (k : Wp E Q (pc + 1) lv st (z_uJ m id i.toNatClampNeg x)) : Wp E Q pc lv (.long x :: .int i :: .ref id :: st) m := by
  intro p l e R s mi args below meth c D ca A b Z hA ad H locs ls h1 h2 h3 h4 h5 h6 h7
  have hx := hA.1
  have hb := hA.2.1
  refine va_last hx hb hA.2.2.2.2.2.2.2.2.1 h2.1 h2.2.1 h3 id 2 (zm_W_arr ad ca m hn hs) rfl hi hdg fun H1 locs1 q1 q2 q3 => ?_
  rw [zm_setAJ ad ca hn hs] at q1 q2
  exact k p l e R s mi args below meth c D ca A b Z hA ad H1 locs1 ls h1 ⟨q1, q2, h2.2.2⟩ q3 h4 (z_ws_tail (z_ws_tail (z_ws_tail h5))) h6 h7
theorem w_aast {id n j : Nat} {i : Int32} (hdg : decode (ze_cc E) pc = .ok (.aastore, 1)) (hn : id < m.2.2.2) (hs : zm_sh id = .inr (.object "TornReeds$Bit", n)) (hi : vp_in i n) (hj : j < m.2.2.2) (hsj : zm_sh j = .inl 0) (k : Wp E Q (pc + 1) lv st (z_uR m id i.toNatClampNeg j)) : Wp E Q pc lv (.ref j :: .int i :: .ref id :: st) m := by
  intro p l e R s mi args below meth c D ca A b Z hA ad H locs ls h1 h2 h3 h4 h5 h6 h7
  have hx := hA.1
  have hb := hA.2.1
  refine va_astq (r := (RX0, TX0, 16)) hx hb hA.2.2.2.2.2.2.2.2.1 h2.1 h2.2.1 h3 id 3 j 0 (zm_W_arr ad ca m hn hs) rfl (zm_W_obj ad ca m hj hsj) rfl hi hdg fun H1 locs1 q1 q2 q3 => ?_
  rw [zm_setAR ad ca hn hs] at q1 q2
  exact k p l e R s mi args below meth c D ca A b Z hA ad H1 locs1 ls h1 ⟨q1, q2, zm_wf_uR h2.2.2 hj⟩ q3 h4 (z_ws_tail (z_ws_tail (z_ws_tail h5))) h6 h7
theorem w_alen0 {id n : Nat} {v : Int32} (hdg : decode (ze_cc E) pc = .ok (.arraylength, 1)) (hn : id < m.2.2.2) (hs : zm_sh id = .inr (.int, n)) (hv : Int32.ofNat n = v) (k : Wp E Q (pc + 1) lv (.int v :: st) m) : Wp E Q pc lv (.ref id :: st) m := by
  intro p l e R s mi args below meth c D ca A b Z hA ad H locs ls h1 h2 h3 h4 h5 h6 h7
  have hx := hA.1
  have hb := hA.2.1
  refine va_alen hx hb hA.2.2.2.2.2.2.2.2.1 h2.1 id 0 (zm_W_arr ad ca m hn hs) rfl hv hdg ?_
  exact k p l e R s mi args below meth c D ca A b Z hA ad H locs ls h1 h2 h3 h4 (z_ws_cons trivial (z_ws_tail h5)) h6 h7
theorem w_alen1 {id n : Nat} {v : Int32} (hdg : decode (ze_cc E) pc = .ok (.arraylength, 1)) (hn : id < m.2.2.2) (hs : zm_sh id = .inr (.boolean, n)) (hv : Int32.ofNat n = v) (k : Wp E Q (pc + 1) lv (.int v :: st) m) : Wp E Q pc lv (.ref id :: st) m := by
  intro p l e R s mi args below meth c D ca A b Z hA ad H locs ls h1 h2 h3 h4 h5 h6 h7
  have hx := hA.1
  have hb := hA.2.1
  refine va_alen hx hb hA.2.2.2.2.2.2.2.2.1 h2.1 id 1 (zm_W_arr ad ca m hn hs) rfl hv hdg ?_
  exact k p l e R s mi args below meth c D ca A b Z hA ad H locs ls h1 h2 h3 h4 (z_ws_cons trivial (z_ws_tail h5)) h6 h7
theorem w_alen2 {id n : Nat} {v : Int32} (hdg : decode (ze_cc E) pc = .ok (.arraylength, 1)) (hn : id < m.2.2.2) (hs : zm_sh id = .inr (.long, n)) (hv : Int32.ofNat n = v) (k : Wp E Q (pc + 1) lv (.int v :: st) m) : Wp E Q pc lv (.ref id :: st) m := by
  intro p l e R s mi args below meth c D ca A b Z hA ad H locs ls h1 h2 h3 h4 h5 h6 h7
  have hx := hA.1
  have hb := hA.2.1
  refine va_alen hx hb hA.2.2.2.2.2.2.2.2.1 h2.1 id 2 (zm_W_arr ad ca m hn hs) rfl hv hdg ?_
  exact k p l e R s mi args below meth c D ca A b Z hA ad H locs ls h1 h2 h3 h4 (z_ws_cons trivial (z_ws_tail h5)) h6 h7
theorem w_sld {L : Nat} {xs : Nat → Int32} {i : Int32} (hdg : decode (ze_cc E) pc = .ok (.iaload, 1)) (hs : ze_scr E = some (L, xs)) (hi : vp_in i L) (k : Wp E Q (pc + 1) lv (.int (xs i.toNatClampNeg) :: st) m) : Wp E Q pc lv (.int i :: .ref 1000 :: st) m := by
  intro p l e R s mi args below meth c D ca A b Z hA ad H locs ls h1 h2 h3 h4 h5 h6 h7
  have hx := hA.1
  have hb := hA.2.1
  obtain ⟨x1, x2, x3⟩ := hA.2.2.2.2.2.2.2.2.2.2.2.2.1 _ hs
  rw [← h1 1000 (Or.inr rfl)] at x1 x2 x3
  refine va_sld hx hb x1 x2 x3 h3 hi hdg ?_
  exact k p l e R s mi args below meth c D ca A b Z hA ad H locs ls h1 h2 h3 h4 (z_ws_cons trivial (z_ws_tail (z_ws_tail h5))) h6 h7
theorem w_slen {L : Nat} {xs : Nat → Int32} (hdg : decode (ze_cc E) pc = .ok (.arraylength, 1)) (hs : ze_scr E = some (L, xs)) (k : Wp E Q (pc + 1) lv (.int (nI L) :: st) m) : Wp E Q pc lv (.ref 1000 :: st) m := by
  intro p l e R s mi args below meth c D ca A b Z hA ad H locs ls h1 h2 h3 h4 h5 h6 h7
  have hx := hA.1
  have hb := hA.2.1
  obtain ⟨x1, x2, x3⟩ := hA.2.2.2.2.2.2.2.2.2.2.2.2.1 _ hs
  rw [← h1 1000 (Or.inr rfl)] at x1 x2 x3
  refine va_slen hx hb x1 x2 x3 h3 hdg ?_
  exact k p l e R s mi args below meth c D ca A b Z hA ad H locs ls h1 h2 h3 h4 (z_ws_cons trivial (z_ws_tail h5)) h6 h7
end WI
end
section
/-! a callee: code, locals' count, answer's type, height, cells made -/
abbrev zK : Type := ByteArray × Nat × Option FieldType × Nat × Nat
def zk_h (K : zK) : Nat := K.2.2.2.1
def zk_mc (K : zK) : Nat := K.2.2.2.2
def zk_ms (K : zK) (n : Nat) : Nat := zm_ss (n + zk_mc K) - zm_ss n
def zk_rm (K : zK) (n : Nat) : Room := { frames := zk_h K, cells := zk_mc K, slots := zk_ms K n, locals := 40 * zk_h K }
def zk_ws (y : MethodName) (K : zK) : List Cond := Cond.code y K.1 K.2.1 K.2.2.1 :: zm_g
def zm_U (D : va_G) (ca : FieldType → Nat) (A : Nat → Prop) (ad : Nat → Nat) (m : zM) (U : State) : Prop := zm_R D ca A ad m U.heap ∧ va_K D vwCl (zm_t ca) U ∧ (∀ w ∈ zm_nest, va_Nw w U) ∧ va_AO "TornReeds$Bit" U ∧ zm_AL U
def zm_Qc (D : va_G) (ca : FieldType → Nat) (A : Nat → Prop) (ad : Nat → Nat) (n mc : Nat) (F : Option Value → zM → Prop) : Array Value → State → Outcome → State → Prop := fun _ st oc t =>
  (∃ (r : Option Value) (m' : zM) (ad' : Nat → Nat), oc = .returned (r.map (z_c ad')) ∧ F r m' ∧ z_eq n ad ad' ∧ m'.2.2.2 = n + mc ∧ (∀ v, r = some v → z_w m'.2.2.2 v) ∧ zm_R D ca A ad' m' t.heap) ∧ va_F A st t
/-- CALLING y with these arguments in this memory comes back with what F says -/
def Cl (y : MethodName) (K : zK) (as : List Value) (m : zM) (F : Option Value → zM → Prop) : Prop :=
  ∀ (l : Launch) (D : va_G) (ca : FieldType → Nat) (A : Nat → Prop) (ad : Nat → Nat) (sz : Nat), (∀ q, sz ≤ q → A q) → z_ws m.2.2.2 as →
    Met l y (zk_ws y K) (zk_rm K m.2.2.2) (va_Pc (z_s ad as) (fun U => U.heap.size = sz ∧ zm_U D ca A ad m U)) (zm_Qc D ca A ad m.2.2.2 (zk_mc K) F) (zk_mc K) (zk_ms K m.2.2.2) A
theorem zm_good (y : MethodName) (K : zK) (hc : Cond.code y K.1 K.2.1 K.2.2.1 ∈ zm_g) : GoodIn zm_g (zk_ws y K) := by
  intro w hw
  rcases List.mem_cons.mp hw with rfl | hw
  · exact ⟨hc, good_of_word (List.mem_filter.mp hc).2⟩
  · exact ⟨hw, good_of_word (List.mem_filter.mp hw).2⟩
theorem zm_nest_nest : ∀ w ∈ zm_nest, ∃ a i x h, w = .methodLinkNest a i x h := by
  intro w hw
  simp only [zm_nest, List.mem_cons, List.not_mem_nil, or_false] at hw
  rcases hw with rfl | rfl | rfl | rfl | rfl | rfl | rfl | rfl | rfl | rfl | rfl <;> exact ⟨_, _, _, _, rfl⟩
theorem zm_U_blind (D : va_G) (ca : FieldType → Nat) (A : Nat → Prop) (ad : Nat → Nat) (m : zM) (sz : Nat) (av : List Value) : FrameBlind (va_Pc av (fun U => U.heap.size = sz ∧ zm_U D ca A ad m U)) := by
  intro a U g mk q
  obtain ⟨q0, q1, qR, qK, qN, qA, qL⟩ := q
  refine ⟨q0, q1, qR, va_K.moved (u := U) (U := U.calling g mk a) (Vm.Alike.refl U.vm) qK, fun w hw => ?_, va_AO.moved (u := U) (U := U.calling g mk a) (Vm.Alike.refl U.vm) qA, zm_AL.moved (u := U) (U := U.calling g mk a) (Vm.Alike.refl U.vm) qL⟩
  obtain ⟨a1, i1, x1, b1, rfl⟩ := zm_nest_nest w hw
  exact va_Nw.same rfl (rfl : U.vm = (U.calling g mk a).vm) (qN _ hw)
section WC
variable {E : zE} {Q : Option Value → zM → Prop} {pc : Nat} {lv : List (Nat × Value)} {st : List Value} {m : zM}
theorem zm_U_at {p : Program} {l : Launch} {e : Env} {R : Room} {s : State} {mi : MethodId} {args : Array Value} {below : List Frame} {meth : Method} {c : Code} {D : va_G} {ca : FieldType → Nat} {A : Nat → Prop} {b : Nat → Nat} {Z : State → Prop} {ad : Nat → Nat} {H : Heap} (hA : zm_A E Q p l e R s mi args below meth c D ca A b Z) (h2 : zm_R D ca A ad m H) {U : State} (hU : U.heap = H) (hW : s.WarmedH U.vm) : zm_U D ca A ad m U := by
  obtain ⟨a1, a2, a3, a4, a5, a6, a7, a8, a9, a10, a11, a12, a13, a14⟩ := hA
  refine ⟨by rw [hU]; exact h2, va_K.moved hW.alike a9, fun w hw => ?_, va_AO.moved hW.alike a7, zm_AL.moved hW.alike a8⟩
  have h := a6 w hw
  obtain ⟨a1, i1, x1, b1, rfl⟩ := zm_nest_nest w hw
  exact va_Nw.warmM hW h
theorem zm_after {p : Program} {l : Launch} {e : Env} {R : Room} {s : State} {mi : MethodId} {args : Array Value} {below : List Frame} {meth : Method} {c : Code} {D : va_G} {ca : FieldType → Nat} {A : Nat → Prop} {b : Nat → Nat} {Z : State → Prop} {ad : Nat → Nat} {H : Heap} {locs : List Loc} {ls : Array Slot} {st0 : List Value} {K : zK} {av : Array Value} {F : Option Value → zM → Prop}
    (hA : zm_A E Q p l e R s mi args below meth c D ca A b Z) (h1 : z_eq (ze_n0 E) b ad) (h2 : zm_R D ca A ad m H) (h3 : va_S A s.heap H locs) (h4 : z_wl m.2.2.2 lv) (h5 : z_ws m.2.2.2 st) (h6 : ze_n0 E ≤ m.2.2.2) (h7 : lv_has ls (ze_nL E) (z_l ad lv))
    (hr : va_Run p l e R s mi args below meth c H locs (zm_cs E m) (zm_sl E m) (zk_mc K) (zk_ms K m.2.2.2) (F0 mi pc ls st0) (z_s ad st) (zm_Qc D ca A ad m.2.2.2 (zk_mc K) F av) A)
    (k : ∀ r m', F r m' → Wp E Q (pc + 3) lv (r.toList ++ st) m') : W p l e R s mi args below meth c H locs (zm_cs E m) (zm_sl E m) Z (F0 mi pc ls st0) := by
  intro T hT X
  obtain ⟨v, st₀, t, T', L, h0, X', hL, e1, e2, ⟨⟨r, m', ad', hv, hF, heq, hn', hw, hR'⟩, hz, hk⟩, stp⟩ := hr T hT X
  have hvr : v = r.map (z_c ad') := by injection hv
  subst hvr
  rw [h0] at hz hk
  have hmn : m.2.2.2 ≤ m'.2.2.2 := by omega
  have hS : va_S A s.heap T'.heap (locs ++ L) := ⟨Nat.le_trans h3.1 (by rw [e1]; exact hz), fun q g1 g2 => by rw [e1, hk q (Nat.lt_of_lt_of_le g1 h3.1) g2]; exact h3.2.1 q g1 g2, fun q hq => by
      rcases List.mem_append.mp hq with g | g
      · exact h3.2.2 q g
      · exact hL q g⟩
  have hcs : zm_cs E m' = zm_cs E m + zk_mc K := by unfold zm_cs; omega
  have hsl : zm_sl E m' = zm_sl E m + zk_ms K m.2.2.2 := by
    unfold zm_sl zk_ms
    rw [hn']
    have g1 := zm_ss_le h6
    have g2 := zm_ss_mono m.2.2.2 (zk_mc K)
    omega
  have hst : z_s ad' (r.toList ++ st) = (r.map (z_c ad')).toList ++ z_s ad st := by
    unfold z_s
    rw [List.map_append]
    congr 1
    · cases r <;> rfl
    · exact z_s_eq heq h5
  obtain ⟨t2, a1, b1⟩ := k r m' hF p l e R s mi args below meth c D ca A b Z hA ad' T'.heap (locs ++ L) ls (fun q hq => (heq q (hq.imp (fun g => Nat.lt_of_lt_of_le g h6) id)).trans (h1 q hq)) (by rw [e1]; exact hR') hS (fun q hq => z_w_mono hmn (h4 q hq))
    (fun x hx => by
      rcases List.mem_append.mp hx with g | g
      · exact hw x (by cases r with
          | none => cases g
          | some y => rw [List.mem_singleton.mp g])
      · exact z_w_mono hmn (h5 x g)) (Nat.le_trans h6 hmn) (by rw [z_l_eq heq h4]; exact h7) T' rfl (by rw [hcs, hsl]; exact X')
  refine ⟨t2, stp t2 ?_, b1⟩
  rw [hst] at a1
  exact a1
/-- what is known of a method of objects -/
def zm_yv (y : MethodName) (K : zK) (np : Nat) : Prop := (y.cls ≠ "java/lang/invoke/MethodHandle" ∧ y.cls ≠ "java/lang/invoke/VarHandle" ∧ (parseMethodDescriptor y.desc).map (fun d => d.parameters.length) = some np) ∧ Cond.initialized y.cls ∈ zm_g ∧ Cond.code y K.1 K.2.1 K.2.2.1 ∈ zm_g ∧ K.2.1 ≤ 21 ∧ Cond.instanceMethod y ∈ zm_g ∧ Cond.selects y.cls y y ∈ zm_g
def zm_ys (y : MethodName) (K : zK) (np : Nat) : Prop := (y.cls ≠ "java/lang/invoke/MethodHandle" ∧ y.cls ≠ "java/lang/invoke/VarHandle" ∧ (parseMethodDescriptor y.desc).map (fun d => d.parameters.length) = some np) ∧ Cond.initialized y.cls ∈ zm_g ∧ Cond.code y K.1 K.2.1 K.2.2.1 ∈ zm_g ∧ K.2.1 ≤ 21 ∧ Cond.static y ∈ zm_g
def zm_yi (y : MethodName) (K : zK) (np : Nat) : Prop := (y.cls ≠ "java/lang/invoke/MethodHandle" ∧ y.cls ≠ "java/lang/invoke/VarHandle" ∧ (parseMethodDescriptor y.desc).map (fun d => d.parameters.length) = some np) ∧ Cond.initialized y.cls ∈ zm_g ∧ Cond.code y K.1 K.2.1 K.2.2.1 ∈ zm_g ∧ K.2.1 ≤ 21 ∧ Cond.instanceMethod y ∈ zm_g ∧ y.name = "<init>" ∧ K.2.2.1 = none
theorem zm_room {p : Program} {l : Launch} {e : Env} {R : Room} {s : State} {mi : MethodId} {args : Array Value} {below : List Frame} {meth : Method} {c : Code} {D : va_G} {ca : FieldType → Nat} {A : Nat → Prop} {b : Nat → Nat} {Z : State → Prop} (hA : zm_A E Q p l e R s mi args below meth c D ca A b Z) {K : zK} (hh : zk_h K + 1 ≤ ze_h E) (hL : K.2.1 ≤ 21) : (zk_rm K m.2.2.2).frames + 1 ≤ R.frames ∧ 8 + (K.2.1 + 11) + (zk_rm K m.2.2.2).locals ≤ R.locals := by
  obtain ⟨a1, a2, a3, a4, a5, a6, a7, a8, a9, a10, ⟨r1, r2, r3, r4⟩, a12⟩ := hA
  refine ⟨Nat.le_trans hh r1, ?_⟩
  show 8 + (K.2.1 + 11) + 40 * zk_h K ≤ R.locals
  omega
theorem zm_fit {p : Program} {l : Launch} {e : Env} {R : Room} {s : State} {mi : MethodId} {args : Array Value} {below : List Frame} {meth : Method} {c : Code} {D : va_G} {ca : FieldType → Nat} {A : Nat → Prop} {b : Nat → Nat} {Z : State → Prop} (hA : zm_A E Q p l e R s mi args below meth c D ca A b Z) {K : zK} (h6 : ze_n0 E ≤ m.2.2.2) (hn : m.2.2.2 + zk_mc K ≤ ze_n0 E + ze_mc E) : zm_cs E m + zk_mc K ≤ R.cells ∧ zm_sl E m + zk_ms K m.2.2.2 ≤ R.slots := by
  obtain ⟨a1, a2, a3, a4, a5, a6, a7, a8, a9, a10, ⟨r1, r2, r3, r4⟩, a12⟩ := hA
  unfold zm_cs zm_sl zk_ms
  have g1 := zm_ss_le h6
  have g2 := zm_ss_mono m.2.2.2 (zk_mc K)
  have g3 := zm_ss_le hn
  omega
theorem zm_stk {ad : Nat → Nat} {rest : List Value} (hw : (rest.map fun v => v.category).sum ≤ 8) : ((z_s ad rest).map fun v => v.category).sum ≤ 8 := by
  unfold z_s
  rw [List.map_map]
  have : ((fun v : Value => v.category) ∘ z_c ad) = fun v => v.category := funext fun v => z_cat ad v
  rw [this]
  exact hw
theorem w_callV {idx id ci np : Nat} {y : MethodName} {K : zK} {as st0 : List Value} (hdg : decode (ze_cc E) pc = .ok (.invokevirtual idx, 3)) (hl : Cond.methodLink (ze_own E) idx y ∈ zm_g) (hy : zm_yv y K np) (hh : zk_h K + 1 ≤ ze_h E) (hlen : as.length = np) (hst : st0 = as.reverse ++ .ref id :: st) (hid : id < m.2.2.2) (hs : zm_sh id = .inl ci) (hci : ci < 13) (hc : zm_C ci = y.cls) (hw : (st.map fun v => v.category).sum ≤ 8) (hn : m.2.2.2 + zk_mc K ≤ ze_n0 E + ze_mc E)
    (k : Cl y K (.ref id :: as) m (fun r m' => Wp E Q (pc + 3) lv (r.toList ++ st) m')) : Wp E Q pc lv st0 m := by
  subst hst
  intro p l e R s mi args below meth c D ca A b Z hA ad H locs ls h1 h2 h3 h4 h5 h6 h7
  have hx := hA.1
  have hb := hA.2.1
  have hml := hA.2.2.1
  have hown := hA.2.2.2.1
  have hts := hA.2.2.2.2.1
  obtain ⟨hd, hini, hcode, hL, hin, hsel⟩ := hy
  have hM := k l D ca A ad H.size (fun q hq => hA.2.2.2.2.2.2.2.2.2.1 q (Nat.le_trans h3.1 hq)) (fun v hv => h5 v (by
    rcases List.mem_cons.mp hv with g | g
    · exact List.mem_append_right _ (g ▸ List.mem_cons_self)
    · exact List.mem_append_left _ (List.mem_reverse.mpr g)))
  have cw : CallW R s args (ze_own E) y.cls idx y K.1 K.2.1 K.2.2.1 (zk_ws y K) (zk_rm K m.2.2.2) (zk_mc K) (zk_ms K m.2.2.2) np := ⟨callB_of np hts (zm_good y K hcode) rfl rfl rfl (hts _ hini) (hts _ hl) hd (zm_room hA hh hL), hts _ hin, hts _ hsel⟩
  have hp : PreV s H y.cls (ad id) (va_Pc (z_s ad (.ref id :: as)) (fun U => U.heap.size = H.size ∧ zm_U D ca A ad m U)) (z_s ad as) := ⟨zm_U_blind D ca A ad m H.size _, by
    have q := va_recv hA.2.2.2.2.2.2.2.2.1 h2.1 (zm_cl hci) (zm_W_obj ad ca m hid hs)
    rw [← hc]
    exact q, fun U hU hW => ⟨rfl, by rw [hU], zm_U_at hA h2 hU hW⟩⟩
  have hr := va_runV (below := below) (e := e) (meth := meth) (locs := locs) (cells := zm_cs E m) (slots := zm_sl E m) (g := F0 mi pc ls (z_s ad (as.reverse ++ .ref id :: st))) (rest := z_s ad st) ⟨hx, hb, hml, hown, hts⟩ hM cw hp rfl (by unfold z_s; rw [List.length_map]; exact hlen) h7.1 (by show z_s ad _ = _; simp [z_s, z_c]) (lv_room (zm_stk hw)) hdg (zm_fit hA h6 hn)
  exact zm_after hA h1 h2 h3 h4 (fun v hv => h5 v (List.mem_append_right _ (List.mem_cons_of_mem _ hv))) h6 h7 hr (fun r m' h => h)
theorem w_callS {idx np : Nat} {y : MethodName} {K : zK} {as st0 : List Value} (hdg : decode (ze_cc E) pc = .ok (.invokestatic idx, 3)) (hl : Cond.methodLink (ze_own E) idx y ∈ zm_g) (hy : zm_ys y K np) (hh : zk_h K + 1 ≤ ze_h E) (hlen : as.length = np) (hst : st0 = as.reverse ++ st) (hw : (st.map fun v => v.category).sum ≤ 8) (hn : m.2.2.2 + zk_mc K ≤ ze_n0 E + ze_mc E)
    (k : Cl y K as m (fun r m' => Wp E Q (pc + 3) lv (r.toList ++ st) m')) : Wp E Q pc lv st0 m := by
  subst hst
  intro p l e R s mi args below meth c D ca A b Z hA ad H locs ls h1 h2 h3 h4 h5 h6 h7
  have hx := hA.1
  have hb := hA.2.1
  have hml := hA.2.2.1
  have hown := hA.2.2.2.1
  have hts := hA.2.2.2.2.1
  obtain ⟨hd, hini, hcode, hL, hstt⟩ := hy
  have hM := k l D ca A ad H.size (fun q hq => hA.2.2.2.2.2.2.2.2.2.1 q (Nat.le_trans h3.1 hq)) (fun v hv => h5 v (List.mem_append_left _ (List.mem_reverse.mpr hv)))
  have cw : CallB R s args (ze_own E) idx y K.1 K.2.1 K.2.2.1 (zk_ws y K) (zk_rm K m.2.2.2) (zk_mc K) (zk_ms K m.2.2.2) np ∧ (Cond.static y).before args s = true := ⟨callB_of np hts (zm_good y K hcode) rfl rfl rfl (hts _ hini) (hts _ hl) hd (zm_room hA hh hL), hts _ hstt⟩
  have hp : PreS s H (va_Pc (z_s ad as) (fun U => U.heap.size = H.size ∧ zm_U D ca A ad m U)) (z_s ad as) := ⟨zm_U_blind D ca A ad m H.size _, fun U hU hW => ⟨rfl, by rw [hU], zm_U_at hA h2 hU hW⟩⟩
  have hr := va_runS (below := below) (e := e) (meth := meth) (locs := locs) (cells := zm_cs E m) (slots := zm_sl E m) (g := F0 mi pc ls (z_s ad (as.reverse ++ st))) (rest := z_s ad st) ⟨hx, hb, hml, hown, hts⟩ hM cw hp rfl (by unfold z_s; rw [List.length_map]; exact hlen) h7.1 (by show z_s ad _ = _; simp [z_s]) (lv_room (zm_stk hw)) hdg (zm_fit hA h6 hn)
  exact zm_after hA h1 h2 h3 h4 (fun v hv => h5 v (List.mem_append_right _ hv)) h6 h7 hr (fun r m' h => h)
theorem w_callSN {idx np : Nat} {y : MethodName} {K : zK} {as st0 : List Value} {host : String} (hdg : decode (ze_cc E) pc = .ok (.invokestatic idx, 3)) (hl : Cond.methodLinkNest (ze_own E) idx y host ∈ zm_nest) (hy : zm_ys y K np) (hh : zk_h K + 1 ≤ ze_h E) (hlen : as.length = np) (hst : st0 = as.reverse ++ st) (hw : (st.map fun v => v.category).sum ≤ 8) (hn : m.2.2.2 + zk_mc K ≤ ze_n0 E + ze_mc E)
    (k : Cl y K as m (fun r m' => Wp E Q (pc + 3) lv (r.toList ++ st) m')) : Wp E Q pc lv st0 m := by
  subst hst
  intro p l e R s mi args below meth c D ca A b Z hA ad H locs ls h1 h2 h3 h4 h5 h6 h7
  have hx := hA.1
  have hb := hA.2.1
  have hml := hA.2.2.1
  have hown := hA.2.2.2.1
  have hts := hA.2.2.2.2.1
  obtain ⟨hd, hini, hcode, hL, hstt⟩ := hy
  have hM := k l D ca A ad H.size (fun q hq => hA.2.2.2.2.2.2.2.2.2.1 q (Nat.le_trans h3.1 hq)) (fun v hv => h5 v (List.mem_append_left _ (List.mem_reverse.mpr hv)))
  have cw : va_CN R s args (ze_own E) idx y host K.1 K.2.1 K.2.2.1 (zk_ws y K) (zk_rm K m.2.2.2) (zk_mc K) (zk_ms K m.2.2.2) np ∧ (Cond.static y).before args s = true ∧ True := ⟨va_cnB np hts (zm_good y K hcode) rfl rfl rfl (hA.2.2.2.2.2.1 _ hl) (hts _ hini) hd (zm_room hA hh hL), hts _ hstt, trivial⟩
  have hp : PreS s H (va_Pc (z_s ad as) (fun U => U.heap.size = H.size ∧ zm_U D ca A ad m U)) (z_s ad as) := ⟨zm_U_blind D ca A ad m H.size _, fun U hU hW => ⟨rfl, by rw [hU], zm_U_at hA h2 hU hW⟩⟩
  have hr := va_runSN (below := below) (e := e) (meth := meth) (locs := locs) (cells := zm_cs E m) (slots := zm_sl E m) (g := F0 mi pc ls (z_s ad (as.reverse ++ st))) (rest := z_s ad st) ⟨hx, hb, hml, hown, hts⟩ hM cw hp rfl (by unfold z_s; rw [List.length_map]; exact hlen) h7.1 (by show z_s ad _ = _; simp [z_s]) (lv_room (zm_stk hw)) hdg (zm_fit hA h6 hn)
  exact zm_after hA h1 h2 h3 h4 (fun v hv => h5 v (List.mem_append_right _ hv)) h6 h7 hr (fun r m' h => h)
theorem w_callI {idx id np : Nat} {y : MethodName} {K : zK} {as st0 : List Value} (hdg : decode (ze_cc E) pc = .ok (.invokespecial idx, 3)) (hl : Cond.methodLink (ze_own E) idx y ∈ zm_g) (hy : zm_yi y K np) (hh : zk_h K + 1 ≤ ze_h E) (hlen : as.length = np) (hst : st0 = as.reverse ++ .ref id :: st) (hw : (st.map fun v => v.category).sum ≤ 8) (hn : m.2.2.2 + zk_mc K ≤ ze_n0 E + ze_mc E)
    (k : Cl y K (.ref id :: as) m (fun r m' => Wp E Q (pc + 3) lv (r.toList ++ st) m')) : Wp E Q pc lv st0 m := by
  subst hst
  intro p l e R s mi args below meth c D ca A b Z hA ad H locs ls h1 h2 h3 h4 h5 h6 h7
  have hx := hA.1
  have hb := hA.2.1
  have hml := hA.2.2.1
  have hown := hA.2.2.2.1
  have hts := hA.2.2.2.2.1
  obtain ⟨hd, hini, hcode, hL, hin, hnm, hret⟩ := hy
  have hM := k l D ca A ad H.size (fun q hq => hA.2.2.2.2.2.2.2.2.2.1 q (Nat.le_trans h3.1 hq)) (fun v hv => h5 v (by
    rcases List.mem_cons.mp hv with g | g
    · exact List.mem_append_right _ (g ▸ List.mem_cons_self)
    · exact List.mem_append_left _ (List.mem_reverse.mpr g)))
  have cw : CallB R s args (ze_own E) idx y K.1 K.2.1 none (zk_ws y K) (zk_rm K m.2.2.2) (zk_mc K) (zk_ms K m.2.2.2) np ∧ y.name = "<init>" ∧ (Cond.instanceMethod y).before args s = true := ⟨hret ▸ callB_of np hts (zm_good y K hcode) rfl rfl rfl (hts _ hini) (hts _ hl) hd (zm_room hA hh hL), hnm, hts _ hin⟩
  have hp : PreS s H (va_Pc (z_s ad (.ref id :: as)) (fun U => U.heap.size = H.size ∧ zm_U D ca A ad m U)) (.ref (ad id) :: z_s ad as) := ⟨zm_U_blind D ca A ad m H.size _, fun U hU hW => ⟨rfl, by rw [hU], zm_U_at hA h2 hU hW⟩⟩
  have hr := va_runI (below := below) (e := e) (meth := meth) (locs := locs) (cells := zm_cs E m) (slots := zm_sl E m) (g := F0 mi pc ls (z_s ad (as.reverse ++ .ref id :: st))) (rest := z_s ad st) ⟨hx, hb, hml, hown, hts⟩ hM cw hp rfl (by unfold z_s; rw [List.length_map]; exact hlen) h7.1 (by show z_s ad _ = _; simp [z_s, z_c]) (lv_room (zm_stk hw)) hdg (zm_fit hA h6 hn)
  exact zm_after hA h1 h2 h3 h4 (fun v hv => h5 v (List.mem_append_right _ (List.mem_cons_of_mem _ hv))) h6 h7 hr (fun r m' h => h)
theorem w_callIN {idx id np : Nat} {y : MethodName} {K : zK} {as st0 : List Value} {host : String} (hdg : decode (ze_cc E) pc = .ok (.invokespecial idx, 3)) (hl : Cond.methodLinkNest (ze_own E) idx y host ∈ zm_nest) (hy : zm_yi y K np) (hh : zk_h K + 1 ≤ ze_h E) (hlen : as.length = np) (hst : st0 = as.reverse ++ .ref id :: st) (hw : (st.map fun v => v.category).sum ≤ 8) (hn : m.2.2.2 + zk_mc K ≤ ze_n0 E + ze_mc E)
    (k : Cl y K (.ref id :: as) m (fun r m' => Wp E Q (pc + 3) lv (r.toList ++ st) m')) : Wp E Q pc lv st0 m := by
  subst hst
  intro p l e R s mi args below meth c D ca A b Z hA ad H locs ls h1 h2 h3 h4 h5 h6 h7
  have hx := hA.1
  have hb := hA.2.1
  have hml := hA.2.2.1
  have hown := hA.2.2.2.1
  have hts := hA.2.2.2.2.1
  obtain ⟨hd, hini, hcode, hL, hin, hnm, hret⟩ := hy
  have hM := k l D ca A ad H.size (fun q hq => hA.2.2.2.2.2.2.2.2.2.1 q (Nat.le_trans h3.1 hq)) (fun v hv => h5 v (by
    rcases List.mem_cons.mp hv with g | g
    · exact List.mem_append_right _ (g ▸ List.mem_cons_self)
    · exact List.mem_append_left _ (List.mem_reverse.mpr g)))
  have cw : va_CN R s args (ze_own E) idx y host K.1 K.2.1 none (zk_ws y K) (zk_rm K m.2.2.2) (zk_mc K) (zk_ms K m.2.2.2) np ∧ y.name = "<init>" ∧ (Cond.instanceMethod y).before args s = true := ⟨hret ▸ va_cnB np hts (zm_good y K hcode) rfl rfl rfl (hA.2.2.2.2.2.1 _ hl) (hts _ hini) hd (zm_room hA hh hL), hnm, hts _ hin⟩
  have hp : PreS s H (va_Pc (z_s ad (.ref id :: as)) (fun U => U.heap.size = H.size ∧ zm_U D ca A ad m U)) (.ref (ad id) :: z_s ad as) := ⟨zm_U_blind D ca A ad m H.size _, fun U hU hW => ⟨rfl, by rw [hU], zm_U_at hA h2 hU hW⟩⟩
  have hr := va_runIN (below := below) (e := e) (meth := meth) (locs := locs) (cells := zm_cs E m) (slots := zm_sl E m) (g := F0 mi pc ls (z_s ad (as.reverse ++ .ref id :: st))) (rest := z_s ad st) ⟨hx, hb, hml, hown, hts⟩ hM cw hp rfl (by unfold z_s; rw [List.length_map]; exact hlen) h7.1 (by show z_s ad _ = _; simp [z_s, z_c]) (lv_room (zm_stk hw)) hdg (zm_fit hA h6 hn)
  exact zm_after hA h1 h2 h3 h4 (fun v hv => h5 v (List.mem_append_right _ (List.mem_cons_of_mem _ hv))) h6 h7 hr (fun r m' h => h)
end WC
end
section
/-! a method's contract out of its walk -/
def zk_E (K : zK) (own : String) (n0 : Nat) (ini : Bool) : zE := (K.1, own, K.2.1, K.2.2.1, zk_h K, n0, zk_mc K, ini, none)
theorem z_args (ad : Nat → Nat) : ∀ (i : Nat) (as : List Value), lv_args i (z_s ad as) = z_l ad (lv_args i as)
  | _, [] => rfl
  | i, v :: as => by
    show (i, z_c ad v) :: lv_args (if (z_c ad v).category = 2 then i + 2 else i + 1) (z_s ad as) = (i, z_c ad v) :: z_l ad (lv_args (if v.category = 2 then i + 2 else i + 1) as)
    rw [z_cat, z_args ad _ as]
theorem z_args_w {n : Nat} : ∀ {i : Nat} {as : List Value}, z_ws n as → z_wl n (lv_args i as)
  | _, [], _ => fun q hq => by cases hq
  | i, v :: as, h => fun q hq => by
    rcases List.mem_cons.mp hq with g | g
    · subst g
      exact h v List.mem_cons_self
    · exact z_args_w (z_ws_tail h) q g
theorem z_sl_len (ad : Nat → Nat) (as : List Value) : (lg_sl (z_s ad as)).length = (lg_sl as).length := by
  induction as with
  | nil => rfl
  | cons v as ih =>
    unfold lg_sl z_s at ih ⊢
    simp only [List.map_cons, List.flatMap_cons, List.length_append, z_cat] at ih ⊢
    rw [ih]
    by_cases h : v.category = 2 <;> simp [h]
theorem cl_of {y : MethodName} {K : zK} {as : List Value} {m : zM} {F : Option Value → zM → Prop} (ini : Bool) (hini : ini = true → y.name = "<init>") (hpl : plainName y.cls = true) (hh : 1 ≤ zk_h K) (hlen : (lg_sl as).length ≤ K.2.1) (hret : ∀ t, K.2.2.1 = some t → t = .int ∨ t = .boolean ∨ ∃ C, t = .object C) (k : Wp (zk_E K y.cls m.2.2.2 ini) F 0 (lv_args 0 as) [] m) : Cl y K as m F := by
  intro l D ca A ad sz hAq hws
  refine Met.ofW (cc := K.1) (maxL := K.2.1) (ret := K.2.2.1) hpl rfl ?_
  intro p e s mi args below meth c s₁ B hml hv
  obtain ⟨hargs, hsz, hR, hK, hN, hAO, hAL⟩ := hv
  subst hargs
  have hx := B.exec
  have hb := B.bytes
  have hr := B.returns
  have hts0 := atoms_spec (ws := zk_ws y K) B.pre
  have hts : ∀ w ∈ zm_g, w.before (z_s ad as).toArray s = true := fun w hw => hts0 w (List.mem_cons_of_mem _ hw)
  have hown : s.vm.findClass y.cls = some mi.cls := findClass_of_methodNamed B.named
  have hlocks := B.notSynchronized
  have hnm : meth.name = y.name := (name_of_methodNamed B.named B.method).1
  subst hsz
  have hl := lv_entry (z_s ad as) (n := K.2.1) (by rw [z_sl_len]; exact hlen)
  rw [lg_entry_eq]
  generalize (lg_sl (z_s ad as) ++ List.replicate (K.2.1 - (lg_sl (z_s ad as)).length) Slot.unset).toArray = ls at hl ⊢
  rw [z_args] at hl
  have e1 : zm_cs (zk_E K y.cls m.2.2.2 ini) m = 0 := Nat.sub_self _
  have e2 : zm_sl (zk_E K y.cls m.2.2.2 ini) m = 0 := Nat.sub_self _
  have hact : zm_A (zk_E K y.cls m.2.2.2 ini) F p l e (headSpec (zk_ws y K) (zk_rm K m.2.2.2)).room s mi (z_s ad as).toArray below meth c D ca A ad (MQ below (zm_Qc D ca A ad m.2.2.2 (zk_mc K) F) (z_s ad as).toArray s (zk_mc K) (zk_ms K m.2.2.2) A) := by
    refine ⟨hx, hb, hml, hown, hts, hN, hAO, hAL, hK, hAq, ⟨Nat.le_refl _, Nat.le_refl _, Nat.le_refl _, Nat.le_refl _⟩, fun hi => hnm.trans (hini hi), (fun q hq => by cases hq), ?_⟩
    intro r m' ad' H locs pc ls' hok hdg hb2 hR' hS' hw hn hF
    have c1 : zm_cs (zk_E K y.cls m.2.2.2 ini) m' = zk_mc K := by show m'.2.2.2 - m.2.2.2 = _; rw [hn]; show m.2.2.2 + zk_mc K - m.2.2.2 = _; omega
    have c2 : zm_sl (zk_E K y.cls m.2.2.2 ini) m' = zk_ms K m.2.2.2 := by show zm_ss m'.2.2.2 - zm_ss m.2.2.2 = _; rw [hn]; rfl
    rw [c1, c2]
    have hq : ∀ t : State, t.heap = H → s.WarmedH t.vm → zm_Qc D ca A ad m.2.2.2 (zk_mc K) F (z_s ad as).toArray s (.returned (r.map (z_c ad'))) t := fun t ht _ => ⟨⟨r, m', ad', rfl, hF, hb2, hn, hw, by rw [ht]; exact hR'⟩, hS'.F ht⟩
    cases hrt : K.2.2.1 with
    | none =>
      have hrt' : ze_ret (zk_E K y.cls m.2.2.2 ini) = none := hrt
      rw [hrt'] at hok
      cases r with
      | none => exact W.vret hx hb (hr.trans hrt) hq (fun q hq => hS'.2.2 q hq) hdg hlocks
      | some v => exact False.elim (by simp [z_ok] at hok)
    | some t =>
      have hrt' : ze_ret (zk_E K y.cls m.2.2.2 ini) = some t := hrt
      rw [hrt'] at hok
      cases r with
      | none => exact False.elim (by cases t <;> simp [z_ok] at hok)
      | some v =>
        rcases hret t hrt with rfl | rfl | ⟨C, rfl⟩
        · cases v with
          | int x => exact W.iret hx hb (hr.trans hrt) hq (fun q hq => hS'.2.2 q hq) hdg hlocks
          | _ => exact False.elim (by simp [z_ok] at hok)
        · cases v with
          | int x => exact W.zret hx hb (hr.trans hrt) (zm_nI (Or.inr ⟨rfl, hok⟩)).1 hq (fun q hq => hS'.2.2 q hq) hdg hlocks
          | _ => exact False.elim (by simp [z_ok] at hok)
        · cases v with
          | ref x => exact W.aret hx hb (hr.trans hrt) (Or.inl ⟨C, rfl⟩) (Or.inr ⟨_, rfl⟩) hq (fun q hq => hS'.2.2 q hq) hdg hlocks
          | null => exact W.aret hx hb (hr.trans hrt) (Or.inl ⟨C, rfl⟩) (Or.inl rfl) hq (fun q hq => hS'.2.2 q hq) hdg hlocks
          | _ => exact False.elim (by simp [z_ok] at hok)
  have := k p l e _ s mi _ below meth c D ca A ad _ hact ad s.heap [] ls (fun _ _ => rfl) hR va_S.rf (z_args_w hws) (fun v hv => by cases hv) (Nat.le_refl _) hl
  rw [e1, e2] at this
  exact this
end
section
/-! making cells -/
def z_nx {α : Type} (f : Nat → Nat → α) (n : Nat) (v : α) : Nat → Nat → α := fun i j => if i = n then v else f i j
def z_new (m : zM) : zM := (z_nx m.1 m.2.2.2 0, z_nx m.2.1 m.2.2.2 0, z_nx m.2.2.1 m.2.2.2 none, m.2.2.2 + 1)
theorem z_nx_ne {α : Type} {f : Nat → Nat → α} {n i : Nat} {v : α} (h : i ≠ n) : z_nx f n v i = f i := funext fun j => if_neg h
theorem z_nx_eq {α : Type} {f : Nat → Nat → α} {n : Nat} {v : α} (j : Nat) : z_nx f n v n j = v := if_pos rfl
theorem zm_E_ad {ad ad' : Nat → Nat} {ca : FieldType → Nat} {m : zM} {id : Nat} (h : ∀ k j, m.2.2.1 id k = some j → ad' j = ad j) : zm_E ad' ca m id = zm_E ad ca m id := by
  have key : ∀ k, (m.2.2.1 id k).map ad' = (m.2.2.1 id k).map ad := fun k => by
    cases e : m.2.2.1 id k with
    | none => rfl
    | some j => exact congrArg some (h k j e)
  unfold zm_E
  cases zm_sh id with
  | inl ci =>
    simp only
    congr 2
    apply List.map_congr_left
    intro k _
    unfold zm_f
    rw [key]
  | inr q =>
    simp only
    congr 2
    unfold zm_a
    simp only [key]
def z_ad (ad : Nat → Nat) (n q : Nat) : Nat → Nat := fun k => if k = n then q else ad k
theorem zm_push {ad : Nat → Nat} {ca : FieldType → Nat} {m : zM} {q : Nat} {e : va_E} (hwf : zm_wf m) (he : zm_E (z_ad ad m.2.2.2 q) ca (z_new m) m.2.2.2 = e) : zm_W ad ca m ++ [(q, e)] = zm_W (z_ad ad m.2.2.2 q) ca (z_new m) := by
  unfold zm_W
  show _ = List.map _ (List.range (m.2.2.2 + 1))
  rw [List.range_succ, List.map_append]
  congr 1
  · apply List.map_congr_left
    intro id hid
    have hlt := List.mem_range.mp hid
    have hne : id ≠ m.2.2.2 := Nat.ne_of_lt hlt
    have e1 : z_ad ad m.2.2.2 q id = ad id := if_neg hne
    rw [e1, zm_E_cong (m := m) (m' := z_new m) (z_nx_ne hne) (z_nx_ne hne) (z_nx_ne hne), zm_E_ad (ad := ad) (ad' := z_ad ad m.2.2.2 q)]
    intro k j hj
    exact if_neg (Nat.ne_of_lt (hwf.1 _ _ _ hj))
  · show [(q, e)] = [(z_ad ad m.2.2.2 q m.2.2.2, zm_E (z_ad ad m.2.2.2 q) ca (z_new m) m.2.2.2)]
    rw [he]
    have e1 : z_ad ad m.2.2.2 q m.2.2.2 = q := if_pos rfl
    rw [e1]
theorem zm_wf_new {m : zM} (h : zm_wf m) (hn : m.2.2.2 < 190) : zm_wf (z_new m) := by
  refine ⟨fun i k j e => ?_, hn⟩
  show j < m.2.2.2 + 1
  have e' : (if i = m.2.2.2 then none else m.2.2.1 i k) = some j := e
  by_cases hc : i = m.2.2.2
  · rw [if_pos hc] at e'
    cases e'
  · rw [if_neg hc] at e'
    exact Nat.lt_succ_of_lt (h.1 _ _ _ e')
theorem z_ad_eq {ad : Nat → Nat} {n q : Nat} (h : n ≤ 190) : z_eq n ad (z_ad ad n q) := fun k hk => if_neg (by omega)
def zm_okT (t : FieldType) : Bool := match t with
  | .int => true
  | .boolean => true
  | .long => true
  | .object _ => true
  | .array _ => true
  | _ => false
theorem zm_Tok : ∀ ci, ci < 13 → ∀ k, k < zm_N ci → zm_okT (zm_T ci k) = true := by decide +kernel
section WM
variable {E : zE} {Q : Option Value → zM → Prop} {pc : Nat} {lv : List (Nat × Value)} {st : List Value} {m : zM}
theorem zm_made {p : Program} {l : Launch} {e : Env} {R : Room} {s : State} {mi : MethodId} {args : Array Value} {below : List Frame} {meth : Method} {c : Code} {D : va_G} {ca : FieldType → Nat} {A : Nat → Prop} {b : Nat → Nat} {Z : State → Prop} {ad : Nat → Nat} {H1 : Heap} {locs : List Loc} {ls : Array Slot} {q pc' : Nat} {en : va_E}
    (hA : zm_A E Q p l e R s mi args below meth c D ca A b Z) (h1 : z_eq (ze_n0 E) b ad) (h4 : z_wl m.2.2.2 lv) (h5 : z_ws m.2.2.2 st) (h6 : ze_n0 E ≤ m.2.2.2) (h7 : lv_has ls (ze_nL E) (z_l ad lv)) (hwf : zm_wf m) (hn : m.2.2.2 < 190)
    (he : zm_E (z_ad ad m.2.2.2 q) ca (z_new m) m.2.2.2 = en) (q1 : va_P D vwCl (zm_W ad ca m ++ [(q, en)]) H1) (q2 : va_D A (zm_W ad ca m ++ [(q, en)])) (q3 : va_S A s.heap H1 locs)
    (k : Wp E Q pc' lv (.ref m.2.2.2 :: st) (z_new m)) : W p l e R s mi args below meth c H1 locs (zm_cs E m + 1) (zm_sl E m + zm_sz m.2.2.2) Z (F0 mi pc' ls (.ref q :: z_s ad st)) := by
  rw [zm_push hwf he] at q1 q2
  have hq := z_ad_eq (ad := ad) (q := q) hwf.2
  have k2 := k p l e R s mi args below meth c D ca A b Z hA (z_ad ad m.2.2.2 q) H1 locs ls (fun j hj => (hq j (hj.imp (fun g => Nat.lt_of_lt_of_le g h6) id)).trans (h1 j hj)) ⟨q1, q2, zm_wf_new hwf hn⟩ q3 (fun x hx => z_w_mono (Nat.le_succ _) (h4 x hx)) (z_ws_cons (Or.inl (Nat.lt_succ_self _)) (fun x hx => z_w_mono (Nat.le_succ _) (h5 x hx))) (Nat.le_succ_of_le h6) (by rw [z_l_eq hq h4]; exact h7)
  have c1 : zm_cs E (z_new m) = zm_cs E m + 1 := by show m.2.2.2 + 1 - ze_n0 E = m.2.2.2 - ze_n0 E + 1; omega
  have c2 : zm_sl E (z_new m) = zm_sl E m + zm_sz m.2.2.2 := by
    show zm_ss m.2.2.2 + zm_sz m.2.2.2 - zm_ss (ze_n0 E) = zm_ss m.2.2.2 - zm_ss (ze_n0 E) + zm_sz m.2.2.2
    have := zm_ss_le h6
    omega
  have c3 : z_s (z_ad ad m.2.2.2 q) (.ref m.2.2.2 :: st) = .ref q :: z_s ad st := by
    show .ref (z_ad ad m.2.2.2 q m.2.2.2) :: z_s (z_ad ad m.2.2.2 q) st = _
    rw [z_s_eq hq h5]
    congr 2
    exact if_pos rfl
  rw [c1, c2, c3] at k2
  exact k2
theorem zm_fit1 {p : Program} {l : Launch} {e : Env} {R : Room} {s : State} {mi : MethodId} {args : Array Value} {below : List Frame} {meth : Method} {c : Code} {D : va_G} {ca : FieldType → Nat} {A : Nat → Prop} {b : Nat → Nat} {Z : State → Prop} (hA : zm_A E Q p l e R s mi args below meth c D ca A b Z) (h6 : ze_n0 E ≤ m.2.2.2) (hn : m.2.2.2 + 1 ≤ ze_n0 E + ze_mc E) : zm_cs E m + 1 ≤ R.cells ∧ zm_sl E m + zm_sz m.2.2.2 ≤ R.slots := by
  obtain ⟨a1, a2, a3, a4, a5, a6, a7, a8, a9, a10, ⟨r1, r2, r3, r4⟩, a12⟩ := hA
  unfold zm_cs zm_sl
  have g1 := zm_ss_le h6
  have g3 := zm_ss_le hn
  have g4 : zm_ss (m.2.2.2 + 1) = zm_ss m.2.2.2 + zm_sz m.2.2.2 := rfl
  omega
theorem w_objInit {idx id : Nat} (hdg : decode (ze_cc E) pc = .ok (.invokespecial idx, 3)) (hl : Cond.methodLink (ze_own E) idx Lib.objectInit ∈ zm_g) (hi : Cond.instanceMethod Lib.objectInit ∈ zm_g) (hc : Cond.code Lib.objectInit ⟨#[0xb1]⟩ 1 none ∈ zm_g) (hh : 1 ≤ ze_h E) (hw : (st.map fun v => v.category).sum ≤ 8) (k : Wp E Q (pc + 3) lv st m) : Wp E Q pc lv (.ref id :: st) m := by
  intro p l e R s mi args below meth c D ca A b Z hA ad H locs ls h1 h2 h3 h4 h5 h6 h7
  have hx := hA.1
  have hb := hA.2.1
  have hts := hA.2.2.2.2.1
  obtain ⟨r1, r2, r3, r4⟩ := hA.2.2.2.2.2.2.2.2.2.2.1
  refine W.objInit hx hb hA.2.2.2.1 (hts _ hl) (hts _ hi) (hts _ hc) (g := F0 mi pc ls (z_s ad (.ref id :: st))) rfl (h7.1.trans hA.2.2.1.symm) (a := ad id) (rest := z_s ad st) rfl hdg (Nat.le_trans hh r1) ?_ (k p l e R s mi args below meth c D ca A b Z hA ad H locs ls h1 h2 h3 h4 (z_ws_tail h5) h6 h7)
  have := zm_stk (ad := ad) hw
  show 2 * 0 + _ + 12 ≤ _
  omega
theorem w_new {idx ci : Nat} (hdg : decode (ze_cc E) pc = .ok (.new idx, 3)) (hci : ci < 13) (hl : Cond.classLink (ze_own E) idx (zm_C ci) ∈ zm_g) (hi : Cond.instantiable (zm_C ci) (zm_N ci) ∈ zm_g) (hini : Cond.initialized (zm_C ci) ∈ zm_g) (hs : zm_sh m.2.2.2 = .inl ci) (hn : m.2.2.2 + 1 ≤ ze_n0 E + ze_mc E) (h190 : m.2.2.2 < 190) (k : Wp E Q (pc + 3) lv (.ref m.2.2.2 :: st) (z_new m)) : Wp E Q pc lv st m := by
  intro p l e R s mi args below meth c D ca A b Z hA ad H locs ls h1 h2 h3 h4 h5 h6 h7
  have hx := hA.1
  have hb := hA.2.1
  have hts := hA.2.2.2.2.1
  obtain ⟨f1, f2⟩ := zm_fit1 hA h6 hn
  have hsz : zm_sz m.2.2.2 = zm_N ci := by unfold zm_sz; rw [hs]
  rw [hsz] at f2
  refine va_new (ci := ci) (fs := (List.range (zm_N ci)).map (fun j => defaultValue (zm_T ci j))) hx hb hts (zm_lays hci) (zm_T ci) (zm_tyok hci) hA.2.2.2.1 (hts _ hl) (hts _ hi) (hts _ hini) hA.2.2.2.2.2.2.2.2.1 h2.1 h2.2.1 h3 hA.2.2.2.2.2.2.2.2.2.1 (zm_cl hci) (fun j hj => ?_) f1 f2 hdg (fun q H1 q1 q2 q3 => ?_)
  · unfold vp_V
    rw [List.getD_eq_getElem?_getD, List.getElem?_map, List.getElem?_range hj]
    rfl
  · have := zm_made hA h1 h4 h5 h6 h7 h2.2.2 h190 (q := q) (by
      unfold zm_E
      rw [hs]
      simp only
      congr 2
      apply List.map_congr_left
      intro j hj
      have hok := zm_Tok ci hci j (List.mem_range.mp hj)
      unfold zm_f z_new
      simp only [z_nx_eq]
      cases ht : zm_T ci j <;> rw [ht] at hok <;> first | (cases hok; done) | rfl) q1 q2 q3 k
    rw [hsz] at this
    exact this
theorem zm_ca {s : State} {D : va_G} {ca : FieldType → Nat} {cA : ClassId} {ty : FieldType} (h : va_K D vwCl (zm_t ca ++ [(cA, ty)]) s) (hin : ∃ t0 : Nat, (zm_t ca)[t0]? = some (ca ty, ty)) : cA = ca ty := by
  obtain ⟨t0, h0⟩ := hin
  have g1 := (h.2 t0 (ca ty, ty) (by rw [List.getElem?_append_left (List.getElem?_eq_some_iff.mp h0).1]; exact h0)).2
  have g2 := (h.2 5 (cA, ty) rfl).2
  cases ty with
  | object C =>
    obtain ⟨k1, c1, -, -, -, e1⟩ := g1
    obtain ⟨k2, c2, -, -, -, e2⟩ := g2
    exact Option.some.inj (e2.symm.trans e1)
  | _ => exact Option.some.inj (g2.symm.trans g1)
theorem w_newarr {atype : ArrayType} {ty : FieldType} {n : Int32} {N : Nat} (hdg : decode (ze_cc E) pc = .ok (.newarray atype, 2)) (hty : newarray.typeOf atype = ty) (h3t : ty = .int ∨ ty = .boolean ∨ ty = .long) (harr : Cond.arrayClass ty ∈ zm_g) (hs : zm_sh m.2.2.2 = .inr (ty, N)) (hn0 : ¬ n < 0) (hN : n.toNatClampNeg = N) (hby : N ≤ 512) (hn : m.2.2.2 + 1 ≤ ze_n0 E + ze_mc E) (h190 : m.2.2.2 < 190) (k : Wp E Q (pc + 2) lv (.ref m.2.2.2 :: st) (z_new m)) : Wp E Q pc lv (.int n :: st) m := by
  intro p l e R s mi args below meth c D ca A b Z hA ad H locs ls h1 h2 h3 h4 h5 h6 h7
  have hx := hA.1
  have hb := hA.2.1
  have hts := hA.2.2.2.2.1
  obtain ⟨f1, f2⟩ := zm_fit1 hA h6 hn
  have hsz : zm_sz m.2.2.2 = N := by unfold zm_sz; rw [hs]
  rw [hsz] at f2
  refine va_newa (a0 := zm_a ad (z_new m) m.2.2.2 N ty) hx hb (by rw [hty]; exact hts _ harr) hty hA.2.2.2.2.2.2.2.2.1 h2.1 h2.2.1 h3 hA.2.2.2.2.2.2.2.2.2.1 (fun cA => ?_) hn0 hN ?_ f1 f2 hdg (fun q cA H1 q0 q1 q2 q3 => ?_)
  · rcases h3t with rfl | rfl | rfl <;> simp only [zm_a, z_new] <;> unfold vp_cell <;> simp only [z_nx_eq] <;> rfl
  · rcases h3t with rfl | rfl | rfl <;> simp only [componentBytes] <;> omega
  · have hca : cA = ca ty := zm_ca q0 (by rcases h3t with rfl | rfl | rfl <;> first | exact ⟨0, rfl⟩ | exact ⟨1, rfl⟩ | exact ⟨2, rfl⟩)
    subst hca
    have := zm_made hA h1 h4 (z_ws_tail h5) h6 h7 h2.2.2 h190 (q := q) (by
      unfold zm_E
      rw [hs]
      simp only
      congr 2
      rcases h3t with rfl | rfl | rfl <;> rfl) q1 q2 q3 k
    rw [hsz] at this
    exact this
theorem w_anew {idx : Nat} {n : Int32} {N : Nat} (hdg : decode (ze_cc E) pc = .ok (.anewarray idx, 3)) (hl : Cond.classLink (ze_own E) idx "TornReeds$Bit" ∈ zm_g) (hs : zm_sh m.2.2.2 = .inr (.object "TornReeds$Bit", N)) (hn0 : ¬ n < 0) (hN : n.toNatClampNeg = N) (hby : N ≤ 512) (hn : m.2.2.2 + 1 ≤ ze_n0 E + ze_mc E) (h190 : m.2.2.2 < 190) (k : Wp E Q (pc + 3) lv (.ref m.2.2.2 :: st) (z_new m)) : Wp E Q pc lv (.int n :: st) m := by
  intro p l e R s mi args below meth c D ca A b Z hA ad H locs ls h1 h2 h3 h4 h5 h6 h7
  have hx := hA.1
  have hb := hA.2.1
  have hts := hA.2.2.2.2.1
  obtain ⟨f1, f2⟩ := zm_fit1 hA h6 hn
  have hsz : zm_sz m.2.2.2 = N := by unfold zm_sz; rw [hs]
  rw [hsz] at f2
  refine va_newq hx hb hA.2.2.2.1 (hts _ hl) hA.2.2.2.2.2.2.1 hA.2.2.2.2.2.2.2.2.1 h2.1 h2.2.1 h3 hA.2.2.2.2.2.2.2.2.2.1 hn0 hN (by omega) f1 f2 hdg (fun q cA H1 q0 q1 q2 q3 => ?_)
  have hca : cA = ca (.object "TornReeds$Bit") := zm_ca q0 ⟨3, rfl⟩
  subst hca
  have := zm_made hA h1 h4 (z_ws_tail h5) h6 h7 h2.2.2 h190 (q := q) (by
    unfold zm_E
    rw [hs]
    simp only [zm_a, z_new, z_nx_eq]
    rfl) q1 q2 q3 k
  rw [hsz] at this
  exact this
/-- copying ints from one array to another -/
theorem w_copyi {idx id0 id1 n0 n1 : Nat} {sp dp n : Int32} (hdg : decode (ze_cc E) pc = .ok (.invokestatic idx, 3)) (hl : Cond.methodLink (ze_own E) idx arraycopyName ∈ zm_g) (hnat : Cond.native arraycopyName ∈ zm_g) (hstt : Cond.static arraycopyName ∈ zm_g) (hini : Cond.initialized "java/lang/System" ∈ zm_g) (h0 : id0 < m.2.2.2) (hs0 : zm_sh id0 = .inr (.int, n0)) (h1' : id1 < m.2.2.2) (hs1 : zm_sh id1 = .inr (.int, n1)) (g1 : ¬ sp < 0) (g2 : ¬ dp < 0) (g3 : ¬ n < 0) (g4 : sp.toNatClampNeg + n.toNatClampNeg ≤ n0) (g5 : dp.toNatClampNeg + n.toNatClampNeg ≤ n1) (hh : 2 ≤ ze_h E) (hw : (st.map fun v => v.category).sum ≤ 8)
    (k : Wp E Q (pc + 3) lv st (fun i => if i = id1 then va_cpy (m.1 id0) (m.1 id1) sp.toNatClampNeg dp.toNatClampNeg n.toNatClampNeg else m.1 i, m.2)) : Wp E Q pc lv (.int n :: .int dp :: .ref id1 :: .int sp :: .ref id0 :: st) m := by
  intro p l e R s mi args below meth c D ca A b Z hA ad H locs ls h1 h2 h3 h4 h5 h6 h7
  have hx := hA.1
  have hb := hA.2.1
  have hts := hA.2.2.2.2.1
  obtain ⟨r1, r2, r3, r4⟩ := hA.2.2.2.2.2.2.2.2.2.2.1
  refine va_copyi hx hb (hA.2.2.1.trans h7.1.symm) hA.2.2.2.1 (hts _ hl) (hts _ hnat) (hts _ hstt) (hts _ hini) hA.2.2.2.2.2.2.2.2.1 h2.1 h2.2.1 h3 id0 id1 0 0 (zm_W_arr ad ca m h0 hs0) (zm_W_arr ad ca m h1' hs1) rfl rfl rfl g1 g2 g3 g4 g5 (fun _ _ => rfl) (by omega) ?_ hdg (fun H1 locs1 q1 q2 q3 => ?_)
  · have := zm_stk (ad := ad) hw
    have e1 : nativeFrameWords "java/lang/System" "arraycopy" 5 ≤ 40 := by decide +kernel
    show ((z_s ad st).map fun v => v.category).sum + _ ≤ _
    omega
  · have ee : (zm_W ad ca m).set id1 (ad id1, .inl (ca .int, n1, .inl (va_cpy (m.1 id0) (m.1 id1) sp.toNatClampNeg dp.toNatClampNeg n.toNatClampNeg))) = zm_W ad ca (fun i => if i = id1 then va_cpy (m.1 id0) (m.1 id1) sp.toNatClampNeg dp.toNatClampNeg n.toNatClampNeg else m.1 i, m.2) := by
      rw [← zm_W_set ad ca (m := m) (m' := (fun i => if i = id1 then va_cpy (m.1 id0) (m.1 id1) sp.toNatClampNeg dp.toNatClampNeg n.toNatClampNeg else m.1 i, m.2)) (id := id1) rfl (fun j hj => zm_E_cong (by show (if j = id1 then _ else _) = _; rw [if_neg hj]) rfl rfl)]
      congr 3
      unfold zm_E
      rw [hs1]
      simp only [zm_a]
      rw [if_pos trivial]
    rw [ee] at q1 q2
    exact k p l e R s mi args below meth c D ca A b Z hA ad H1 locs1 ls h1 ⟨q1, q2, h2.2.2⟩ q3 h4 (z_ws_tail (z_ws_tail (z_ws_tail (z_ws_tail (z_ws_tail h5))))) h6 h7
end WM
end
section
section WN
variable {E : zE} {Q : Option Value → zM → Prop} {pc : Nat} {lv : List (Nat × Value)} {st : List Value} {m : zM}
theorem w_aloadN {i : Nat} (hdg : decode (ze_cc E) pc = .ok (.aload i, 2)) (hl : z_get lv i = some .null) (k : Wp E Q (pc + 2) lv (.null :: st) m) : Wp E Q pc lv st m := by
  intro p l e R s mi args below meth c D ca A b Z hA ad H locs ls h1 h2 h3 h4 h5 h6 h7
  have hx := hA.1
  have hb := hA.2.1
  exact lv_aloadN hx hb hdg (zl_at h7 hl) (k p l e R s mi args below meth c D ca A b Z hA ad H locs ls h1 h2 h3 h4 (z_ws_cons trivial h5) h6 h7)
theorem w_aload_nN {i : Fin 4} (hdg : decode (ze_cc E) pc = .ok (.aload_n i, 1)) (hl : z_get lv (i : Nat) = some .null) (k : Wp E Q (pc + 1) lv (.null :: st) m) : Wp E Q pc lv st m := by
  intro p l e R s mi args below meth c D ca A b Z hA ad H locs ls h1 h2 h3 h4 h5 h6 h7
  have hx := hA.1
  have hb := hA.2.1
  exact lv_aload_nN hx hb hdg rfl (zl_at h7 hl) (k p l e R s mi args below meth c D ca A b Z hA ad H locs ls h1 h2 h3 h4 (z_ws_cons trivial h5) h6 h7)
theorem w_astoreN {i : Nat} (hdg : decode (ze_cc E) pc = .ok (.astore i, 2)) (hi : Nat.blt i (ze_nL E) = true) (hno : z_nol lv i = true) (k : Wp E Q (pc + 2) (z_put lv i .null) st m) : Wp E Q pc lv (.null :: st) m := by
  intro p l e R s mi args below meth c D ca A b Z hA ad H locs ls h1 h2 h3 h4 h5 h6 h7
  have hx := hA.1
  have hb := hA.2.1
  refine lv_astoreN hx hb hdg h7 (Nat.blt_eq.mp hi) rfl fun ls' hl' => ?_
  exact k p l e R s mi args below meth c D ca A b Z hA ad H locs ls' h1 h2 h3 (z_put_w (v := .null) h4 trivial) (z_ws_tail h5) h6 (z_put_has (v := .null) hno hl')
theorem w_astore_nN {i : Fin 4} (hdg : decode (ze_cc E) pc = .ok (.astore_n i, 1)) (hi : Nat.blt (i : Nat) (ze_nL E) = true) (hno : z_nol lv (i : Nat) = true) (k : Wp E Q (pc + 1) (z_put lv (i : Nat) .null) st m) : Wp E Q pc lv (.null :: st) m := by
  intro p l e R s mi args below meth c D ca A b Z hA ad H locs ls h1 h2 h3 h4 h5 h6 h7
  have hx := hA.1
  have hb := hA.2.1
  refine lv_astore_nN hx hb hdg rfl h7 (Nat.blt_eq.mp hi) rfl fun ls' hl' => ?_
  exact k p l e R s mi args below meth c D ca A b Z hA ad H locs ls' h1 h2 h3 (z_put_w (v := .null) h4 trivial) (z_ws_tail h5) h6 (z_put_has (v := .null) hno hl')
theorem zm_inj {D : va_G} {ca : FieldType → Nat} {A : Nat → Prop} {ad : Nat → Nat} {H : Heap} (h : zm_R D ca A ad m H) {i j : Nat} (hi : i < m.2.2.2) (hj : j < m.2.2.2) (e : ad i = ad j) : i = j := h.2.1.1 i j _ _ (zm_W_at ad ca m hi) (zm_W_at ad ca m hj) e
theorem w_acmp_eq {rx ry : Option Nat} {off : Int} (tgt : Nat) (hdg : decode (ze_cc E) pc = .ok (.if_acmp .eq off, 3)) (ht : (pc : Int) + off = (tgt : Int)) (hx2 : ∀ i, rx = some i → i < m.2.2.2) (hy2 : ∀ i, ry = some i → i < m.2.2.2) (kt : rx = ry → Wp E Q tgt lv st m) (kf : ¬ rx = ry → Wp E Q (pc + 3) lv st m) : Wp E Q pc lv (va_rf ry :: va_rf rx :: st) m := by
  intro p l e R s mi args below meth c D ca A b Z hA ad H locs ls h1 h2 h3 h4 h5 h6 h7
  have hx := hA.1
  have hb := hA.2.1
  have e1 : z_s ad (va_rf ry :: va_rf rx :: st) = va_rf (ry.map ad) :: va_rf (rx.map ad) :: z_s ad st := by cases rx <;> cases ry <;> rfl
  have e2 : rx.map ad = ry.map ad ↔ rx = ry := by
    cases rx with
    | none => cases ry <;> simp
    | some i =>
      cases ry with
      | none => simp
      | some j =>
        simp only [Option.map_some, Option.some.injEq]
        exact ⟨zm_inj h2 (hx2 i rfl) (hy2 j rfl), fun q => by rw [q]⟩
  rw [e1]
  exact lv_acmp_eq hx hb hdg ht (fun q => kt (e2.mp q) p l e R s mi args below meth c D ca A b Z hA ad H locs ls h1 h2 h3 h4 (z_ws_tail (z_ws_tail h5)) h6 h7) (fun q => kf (fun z => q (e2.mpr z)) p l e R s mi args below meth c D ca A b Z hA ad H locs ls h1 h2 h3 h4 (z_ws_tail (z_ws_tail h5)) h6 h7)
theorem w_tabIn {x : Int32} {dflt lo hi off : Int} {offs : Array Int} {len : Nat} (tgt : Nat) (hdg : decode (ze_cc E) pc = .ok (.tableswitch dflt lo hi offs, len)) (g1 : ¬ x.toInt < lo) (g2 : ¬ hi < x.toInt) (ho : offs[(x.toInt - lo).toNat]? = some off) (ht : (pc : Int) + off = (tgt : Int)) (k : Wp E Q tgt lv st m) : Wp E Q pc lv (.int x :: st) m := by
  intro p l e R s mi args below meth c D ca A b Z hA ad H locs ls h1 h2 h3 h4 h5 h6 h7
  have hx := hA.1
  have hb := hA.2.1
  exact lv_tableIn hx hb hdg g1 g2 ho ht (k p l e R s mi args below meth c D ca A b Z hA ad H locs ls h1 h2 h3 h4 (z_ws_tail h5) h6 h7)
theorem w_tabOut {x : Int32} {dflt lo hi : Int} {offs : Array Int} {len : Nat} (tgt : Nat) (hdg : decode (ze_cc E) pc = .ok (.tableswitch dflt lo hi offs, len)) (g : x.toInt < lo ∨ hi < x.toInt) (ht : (pc : Int) + dflt = (tgt : Int)) (k : Wp E Q tgt lv st m) : Wp E Q pc lv (.int x :: st) m := by
  intro p l e R s mi args below meth c D ca A b Z hA ad H locs ls h1 h2 h3 h4 h5 h6 h7
  have hx := hA.1
  have hb := hA.2.1
  exact lv_tableOut hx hb hdg g ht (k p l e R s mi args below meth c D ca A b Z hA ad H locs ls h1 h2 h3 h4 (z_ws_tail h5) h6 h7)
end WN
end
section
theorem dX0_init_0 : decode cX0_init 0 = .ok (.aload_n 0, 1) := by decide +kernel
theorem dX0_init_1 : decode cX0_init 1 = .ok (.invokespecial 3, 3) := by decide +kernel
theorem dX0_init_4 : decode cX0_init 4 = .ok (.aload_n 0, 1) := by decide +kernel
theorem dX0_init_5 : decode cX0_init 5 = .ok (.bipush 50, 2) := by decide +kernel
theorem dX0_init_7 : decode cX0_init 7 = .ok (.newarray .int, 2) := by decide +kernel
theorem dX0_init_9 : decode cX0_init 9 = .ok (.putfield 9, 3) := by decide +kernel
theorem dX0_init_12 : decode cX0_init 12 = .ok (.aload_n 0, 1) := by decide +kernel
theorem dX0_init_13 : decode cX0_init 13 = .ok (.bipush 50, 2) := by decide +kernel
theorem dX0_init_15 : decode cX0_init 15 = .ok (.newarray .int, 2) := by decide +kernel
theorem dX0_init_17 : decode cX0_init 17 = .ok (.putfield 15, 3) := by decide +kernel
theorem dX0_init_20 : decode cX0_init 20 = .ok (.aload_n 0, 1) := by decide +kernel
theorem dX0_init_21 : decode cX0_init 21 = .ok (.bipush 50, 2) := by decide +kernel
theorem dX0_init_23 : decode cX0_init 23 = .ok (.newarray .int, 2) := by decide +kernel
theorem dX0_init_25 : decode cX0_init 25 = .ok (.putfield 18, 3) := by decide +kernel
theorem dX0_init_28 : decode cX0_init 28 = .ok (.aload_n 0, 1) := by decide +kernel
theorem dX0_init_29 : decode cX0_init 29 = .ok (.iconst 5, 1) := by decide +kernel
theorem dX0_init_30 : decode cX0_init 30 = .ok (.newarray .int, 2) := by decide +kernel
theorem dX0_init_32 : decode cX0_init 32 = .ok (.putfield 21, 3) := by decide +kernel
theorem dX0_init_35 : decode cX0_init 35 = .ok (.aload_n 0, 1) := by decide +kernel
theorem dX0_init_36 : decode cX0_init 36 = .ok (.iconst 5, 1) := by decide +kernel
theorem dX0_init_37 : decode cX0_init 37 = .ok (.newarray .int, 2) := by decide +kernel
theorem dX0_init_39 : decode cX0_init 39 = .ok (.putfield 24, 3) := by decide +kernel
theorem dX0_init_42 : decode cX0_init 42 = .ok (.aload_n 0, 1) := by decide +kernel
theorem dX0_init_43 : decode cX0_init 43 = .ok (.new 27, 3) := by decide +kernel
theorem dX0_init_46 : decode cX0_init 46 = .ok (.dup, 1) := by decide +kernel
theorem dX0_init_47 : decode cX0_init 47 = .ok (.iconst 5, 1) := by decide +kernel
theorem dX0_init_48 : decode cX0_init 48 = .ok (.invokespecial 29, 3) := by decide +kernel
theorem dX0_init_51 : decode cX0_init 51 = .ok (.putfield 32, 3) := by decide +kernel
theorem dX0_init_54 : decode cX0_init 54 = .ok (.aload_n 0, 1) := by decide +kernel
theorem dX0_init_55 : decode cX0_init 55 = .ok (.new 27, 3) := by decide +kernel
theorem dX0_init_58 : decode cX0_init 58 = .ok (.dup, 1) := by decide +kernel
theorem dX0_init_59 : decode cX0_init 59 = .ok (.bipush 10, 2) := by decide +kernel
theorem dX0_init_61 : decode cX0_init 61 = .ok (.invokespecial 29, 3) := by decide +kernel
theorem dX0_init_64 : decode cX0_init 64 = .ok (.putfield 36, 3) := by decide +kernel
theorem dX0_init_67 : decode cX0_init 67 = .ok (.aload_n 0, 1) := by decide +kernel
theorem dX0_init_68 : decode cX0_init 68 = .ok (.bipush 6, 2) := by decide +kernel
theorem dX0_init_70 : decode cX0_init 70 = .ok (.newarray .int, 2) := by decide +kernel
theorem dX0_init_72 : decode cX0_init 72 = .ok (.putfield 39, 3) := by decide +kernel
theorem dX0_init_75 : decode cX0_init 75 = .ok (.aload_n 0, 1) := by decide +kernel
theorem dX0_init_76 : decode cX0_init 76 = .ok (.iload_n 1, 1) := by decide +kernel
theorem dX0_init_77 : decode cX0_init 77 = .ok (.putfield 42, 3) := by decide +kernel
theorem dX0_init_80 : decode cX0_init 80 = .ok (.return_, 1) := by decide +kernel
theorem dX0_cellsTold_0 : decode cX0_cellsTold 0 = .ok (.iconst 0, 1) := by decide +kernel
theorem dX0_cellsTold_1 : decode cX0_cellsTold 1 = .ok (.istore_n 1, 1) := by decide +kernel
theorem dX0_cellsTold_2 : decode cX0_cellsTold 2 = .ok (.iconst 0, 1) := by decide +kernel
theorem dX0_cellsTold_3 : decode cX0_cellsTold 3 = .ok (.istore_n 2, 1) := by decide +kernel
theorem dX0_cellsTold_4 : decode cX0_cellsTold 4 = .ok (.iconst 0, 1) := by decide +kernel
theorem dX0_cellsTold_5 : decode cX0_cellsTold 5 = .ok (.istore_n 3, 1) := by decide +kernel
theorem dX0_cellsTold_6 : decode cX0_cellsTold 6 = .ok (.iconst 0, 1) := by decide +kernel
theorem dX0_cellsTold_7 : decode cX0_cellsTold 7 = .ok (.istore 4, 2) := by decide +kernel
theorem dX0_cellsTold_9 : decode cX0_cellsTold 9 = .ok (.iload 4, 2) := by decide +kernel
theorem dX0_cellsTold_11 : decode cX0_cellsTold 11 = .ok (.aload_n 0, 1) := by decide +kernel
theorem dX0_cellsTold_12 : decode cX0_cellsTold 12 = .ok (.getfield 46, 3) := by decide +kernel
theorem dX0_cellsTold_15 : decode cX0_cellsTold 15 = .ok (.if_icmp .ge 67, 3) := by decide +kernel
theorem dX0_cellsTold_18 : decode cX0_cellsTold 18 = .ok (.aload_n 0, 1) := by decide +kernel
theorem dX0_cellsTold_19 : decode cX0_cellsTold 19 = .ok (.getfield 51, 3) := by decide +kernel
theorem dX0_cellsTold_22 : decode cX0_cellsTold 22 = .ok (.iload 4, 2) := by decide +kernel
theorem dX0_cellsTold_24 : decode cX0_cellsTold 24 = .ok (.iaload, 1) := by decide +kernel
theorem dX0_cellsTold_25 : decode cX0_cellsTold 25 = .ok (.istore 5, 2) := by decide +kernel
theorem dX0_cellsTold_27 : decode cX0_cellsTold 27 = .ok (.iload 5, 2) := by decide +kernel
theorem dX0_cellsTold_29 : decode cX0_cellsTold 29 = .ok (.bipush 59, 2) := by decide +kernel
theorem dX0_cellsTold_31 : decode cX0_cellsTold 31 = .ok (.if_icmp .ne 11, 3) := by decide +kernel
theorem dX0_cellsTold_34 : decode cX0_cellsTold 34 = .ok (.iinc 1 1, 3) := by decide +kernel
theorem dX0_cellsTold_37 : decode cX0_cellsTold 37 = .ok (.iconst 0, 1) := by decide +kernel
theorem dX0_cellsTold_38 : decode cX0_cellsTold 38 = .ok (.istore_n 2, 1) := by decide +kernel
theorem dX0_cellsTold_39 : decode cX0_cellsTold 39 = .ok (.goto 16, 3) := by decide +kernel
theorem dX0_cellsTold_42 : decode cX0_cellsTold 42 = .ok (.iinc 2 1, 3) := by decide +kernel
theorem dX0_cellsTold_45 : decode cX0_cellsTold 45 = .ok (.iload 5, 2) := by decide +kernel
theorem dX0_cellsTold_47 : decode cX0_cellsTold 47 = .ok (.bipush 95, 2) := by decide +kernel
theorem dX0_cellsTold_49 : decode cX0_cellsTold 49 = .ok (.if_icmp .eq 6, 3) := by decide +kernel
theorem dX0_cellsTold_52 : decode cX0_cellsTold 52 = .ok (.iinc 3 1, 3) := by decide +kernel
theorem dX0_cellsTold_55 : decode cX0_cellsTold 55 = .ok (.iload_n 1, 1) := by decide +kernel
theorem dX0_cellsTold_56 : decode cX0_cellsTold 56 = .ok (.iconst 5, 1) := by decide +kernel
theorem dX0_cellsTold_57 : decode cX0_cellsTold 57 = .ok (.if_icmp .ge 17, 3) := by decide +kernel
theorem dX0_cellsTold_60 : decode cX0_cellsTold 60 = .ok (.iload_n 2, 1) := by decide +kernel
theorem dX0_cellsTold_61 : decode cX0_cellsTold 61 = .ok (.bipush 10, 2) := by decide +kernel
theorem dX0_cellsTold_63 : decode cX0_cellsTold 63 = .ok (.if_icmp .gt 11, 3) := by decide +kernel
theorem dX0_cellsTold_66 : decode cX0_cellsTold 66 = .ok (.iload 5, 2) := by decide +kernel
theorem dX0_cellsTold_68 : decode cX0_cellsTold 68 = .ok (.invokestatic 54, 3) := by decide +kernel
theorem dX0_cellsTold_71 : decode cX0_cellsTold 71 = .ok (.ifCond .ne 5, 3) := by decide +kernel
theorem dX0_cellsTold_74 : decode cX0_cellsTold 74 = .ok (.iconst (-1), 1) := by decide +kernel
theorem dX0_cellsTold_75 : decode cX0_cellsTold 75 = .ok (.ireturn, 1) := by decide +kernel
theorem dX0_cellsTold_76 : decode cX0_cellsTold 76 = .ok (.iinc 4 1, 3) := by decide +kernel
theorem dX0_cellsTold_79 : decode cX0_cellsTold 79 = .ok (.goto (-70), 3) := by decide +kernel
theorem dX0_cellsTold_82 : decode cX0_cellsTold 82 = .ok (.iload_n 3, 1) := by decide +kernel
theorem dX0_cellsTold_83 : decode cX0_cellsTold 83 = .ok (.ifCond .le 7, 3) := by decide +kernel
theorem dX0_cellsTold_86 : decode cX0_cellsTold 86 = .ok (.iload_n 3, 1) := by decide +kernel
theorem dX0_cellsTold_87 : decode cX0_cellsTold 87 = .ok (.goto 4, 3) := by decide +kernel
theorem dX0_cellsTold_90 : decode cX0_cellsTold 90 = .ok (.iconst (-1), 1) := by decide +kernel
theorem dX0_cellsTold_91 : decode cX0_cellsTold 91 = .ok (.ireturn, 1) := by decide +kernel
theorem dX0_isSign_0 : decode cX0_isSign 0 = .ok (.iload_n 0, 1) := by decide +kernel
theorem dX0_isSign_1 : decode cX0_isSign 1 = .ok (.invokestatic 58, 3) := by decide +kernel
theorem dX0_isSign_4 : decode cX0_isSign 4 = .ok (.ifCond .ne 21, 3) := by decide +kernel
theorem dX0_isSign_7 : decode cX0_isSign 7 = .ok (.iload_n 0, 1) := by decide +kernel
theorem dX0_isSign_8 : decode cX0_isSign 8 = .ok (.bipush 44, 2) := by decide +kernel
theorem dX0_isSign_10 : decode cX0_isSign 10 = .ok (.if_icmp .eq 15, 3) := by decide +kernel
theorem dX0_isSign_13 : decode cX0_isSign 13 = .ok (.iload_n 0, 1) := by decide +kernel
theorem dX0_isSign_14 : decode cX0_isSign 14 = .ok (.bipush 95, 2) := by decide +kernel
theorem dX0_isSign_16 : decode cX0_isSign 16 = .ok (.if_icmp .eq 9, 3) := by decide +kernel
theorem dX0_isSign_19 : decode cX0_isSign 19 = .ok (.iload_n 0, 1) := by decide +kernel
theorem dX0_isSign_20 : decode cX0_isSign 20 = .ok (.bipush 59, 2) := by decide +kernel
theorem dX0_isSign_22 : decode cX0_isSign 22 = .ok (.if_icmp .ne 7, 3) := by decide +kernel
theorem dX0_isSign_25 : decode cX0_isSign 25 = .ok (.iconst 1, 1) := by decide +kernel
theorem dX0_isSign_26 : decode cX0_isSign 26 = .ok (.goto 4, 3) := by decide +kernel
theorem dX0_isSign_29 : decode cX0_isSign 29 = .ok (.iconst 0, 1) := by decide +kernel
theorem dX0_isSign_30 : decode cX0_isSign 30 = .ok (.ireturn, 1) := by decide +kernel
theorem dX0_become_0 : decode cX0_become 0 = .ok (.aload_n 0, 1) := by decide +kernel
theorem dX0_become_1 : decode cX0_become 1 = .ok (.invokevirtual 61, 3) := by decide +kernel
theorem dX0_become_4 : decode cX0_become 4 = .ok (.iconst 0, 1) := by decide +kernel
theorem dX0_become_5 : decode cX0_become 5 = .ok (.istore_n 2, 1) := by decide +kernel
theorem dX0_become_6 : decode cX0_become 6 = .ok (.iconst 0, 1) := by decide +kernel
theorem dX0_become_7 : decode cX0_become 7 = .ok (.istore_n 3, 1) := by decide +kernel
theorem dX0_become_8 : decode cX0_become 8 = .ok (.iconst 0, 1) := by decide +kernel
theorem dX0_become_9 : decode cX0_become 9 = .ok (.istore 4, 2) := by decide +kernel
theorem dX0_become_11 : decode cX0_become 11 = .ok (.iload 4, 2) := by decide +kernel
theorem dX0_become_13 : decode cX0_become 13 = .ok (.aload_n 1, 1) := by decide +kernel
theorem dX0_become_14 : decode cX0_become 14 = .ok (.getfield 46, 3) := by decide +kernel
theorem dX0_become_17 : decode cX0_become 17 = .ok (.if_icmp .ge 62, 3) := by decide +kernel
theorem dX0_become_20 : decode cX0_become 20 = .ok (.aload_n 1, 1) := by decide +kernel
theorem dX0_become_21 : decode cX0_become 21 = .ok (.getfield 51, 3) := by decide +kernel
theorem dX0_become_24 : decode cX0_become 24 = .ok (.iload 4, 2) := by decide +kernel
theorem dX0_become_26 : decode cX0_become 26 = .ok (.iaload, 1) := by decide +kernel
theorem dX0_become_27 : decode cX0_become 27 = .ok (.istore 5, 2) := by decide +kernel
theorem dX0_become_29 : decode cX0_become 29 = .ok (.iload 5, 2) := by decide +kernel
theorem dX0_become_31 : decode cX0_become 31 = .ok (.bipush 59, 2) := by decide +kernel
theorem dX0_become_33 : decode cX0_become 33 = .ok (.if_icmp .ne 11, 3) := by decide +kernel
theorem dX0_become_36 : decode cX0_become 36 = .ok (.iinc 2 1, 3) := by decide +kernel
theorem dX0_become_39 : decode cX0_become 39 = .ok (.iconst 0, 1) := by decide +kernel
theorem dX0_become_40 : decode cX0_become 40 = .ok (.istore_n 3, 1) := by decide +kernel
theorem dX0_become_41 : decode cX0_become 41 = .ok (.goto 32, 3) := by decide +kernel
theorem dX0_become_44 : decode cX0_become 44 = .ok (.iload 5, 2) := by decide +kernel
theorem dX0_become_46 : decode cX0_become 46 = .ok (.bipush 95, 2) := by decide +kernel
theorem dX0_become_48 : decode cX0_become 48 = .ok (.if_icmp .eq 22, 3) := by decide +kernel
theorem dX0_become_51 : decode cX0_become 51 = .ok (.iload_n 2, 1) := by decide +kernel
theorem dX0_become_52 : decode cX0_become 52 = .ok (.iconst 5, 1) := by decide +kernel
theorem dX0_become_53 : decode cX0_become 53 = .ok (.if_icmp .ge 17, 3) := by decide +kernel
theorem dX0_become_56 : decode cX0_become 56 = .ok (.iload_n 3, 1) := by decide +kernel
theorem dX0_become_57 : decode cX0_become 57 = .ok (.bipush 10, 2) := by decide +kernel
theorem dX0_become_59 : decode cX0_become 59 = .ok (.if_icmp .ge 11, 3) := by decide +kernel
theorem dX0_become_62 : decode cX0_become 62 = .ok (.aload_n 0, 1) := by decide +kernel
theorem dX0_become_63 : decode cX0_become 63 = .ok (.iload_n 2, 1) := by decide +kernel
theorem dX0_become_64 : decode cX0_become 64 = .ok (.iload_n 3, 1) := by decide +kernel
theorem dX0_become_65 : decode cX0_become 65 = .ok (.iload 5, 2) := by decide +kernel
theorem dX0_become_67 : decode cX0_become 67 = .ok (.invokevirtual 64, 3) := by decide +kernel
theorem dX0_become_70 : decode cX0_become 70 = .ok (.iinc 3 1, 3) := by decide +kernel
theorem dX0_become_73 : decode cX0_become 73 = .ok (.iinc 4 1, 3) := by decide +kernel
theorem dX0_become_76 : decode cX0_become 76 = .ok (.goto (-65), 3) := by decide +kernel
theorem dX0_become_79 : decode cX0_become 79 = .ok (.return_, 1) := by decide +kernel
theorem dX0_clear_0 : decode cX0_clear 0 = .ok (.iconst 0, 1) := by decide +kernel
theorem dX0_clear_1 : decode cX0_clear 1 = .ok (.istore_n 1, 1) := by decide +kernel
theorem dX0_clear_2 : decode cX0_clear 2 = .ok (.iload_n 1, 1) := by decide +kernel
theorem dX0_clear_3 : decode cX0_clear 3 = .ok (.bipush 50, 2) := by decide +kernel
theorem dX0_clear_5 : decode cX0_clear 5 = .ok (.if_icmp .ge 17, 3) := by decide +kernel
theorem dX0_clear_8 : decode cX0_clear 8 = .ok (.aload_n 0, 1) := by decide +kernel
theorem dX0_clear_9 : decode cX0_clear 9 = .ok (.getfield 9, 3) := by decide +kernel
theorem dX0_clear_12 : decode cX0_clear 12 = .ok (.iload_n 1, 1) := by decide +kernel
theorem dX0_clear_13 : decode cX0_clear 13 = .ok (.bipush 95, 2) := by decide +kernel
theorem dX0_clear_15 : decode cX0_clear 15 = .ok (.iastore, 1) := by decide +kernel
theorem dX0_clear_16 : decode cX0_clear 16 = .ok (.iinc 1 1, 3) := by decide +kernel
theorem dX0_clear_19 : decode cX0_clear 19 = .ok (.goto (-17), 3) := by decide +kernel
theorem dX0_clear_22 : decode cX0_clear 22 = .ok (.iconst 0, 1) := by decide +kernel
theorem dX0_clear_23 : decode cX0_clear 23 = .ok (.istore_n 1, 1) := by decide +kernel
theorem dX0_clear_24 : decode cX0_clear 24 = .ok (.iload_n 1, 1) := by decide +kernel
theorem dX0_clear_25 : decode cX0_clear 25 = .ok (.iconst 5, 1) := by decide +kernel
theorem dX0_clear_26 : decode cX0_clear 26 = .ok (.if_icmp .ge 23, 3) := by decide +kernel
theorem dX0_clear_29 : decode cX0_clear 29 = .ok (.aload_n 0, 1) := by decide +kernel
theorem dX0_clear_30 : decode cX0_clear 30 = .ok (.getfield 21, 3) := by decide +kernel
theorem dX0_clear_33 : decode cX0_clear 33 = .ok (.iload_n 1, 1) := by decide +kernel
theorem dX0_clear_34 : decode cX0_clear 34 = .ok (.iconst (-1), 1) := by decide +kernel
theorem dX0_clear_35 : decode cX0_clear 35 = .ok (.iastore, 1) := by decide +kernel
theorem dX0_clear_36 : decode cX0_clear 36 = .ok (.aload_n 0, 1) := by decide +kernel
theorem dX0_clear_37 : decode cX0_clear 37 = .ok (.getfield 24, 3) := by decide +kernel
theorem dX0_clear_40 : decode cX0_clear 40 = .ok (.iload_n 1, 1) := by decide +kernel
theorem dX0_clear_41 : decode cX0_clear 41 = .ok (.iconst (-1), 1) := by decide +kernel
theorem dX0_clear_42 : decode cX0_clear 42 = .ok (.iastore, 1) := by decide +kernel
theorem dX0_clear_43 : decode cX0_clear 43 = .ok (.iinc 1 1, 3) := by decide +kernel
theorem dX0_clear_46 : decode cX0_clear 46 = .ok (.goto (-22), 3) := by decide +kernel
theorem dX0_clear_49 : decode cX0_clear 49 = .ok (.aload_n 0, 1) := by decide +kernel
theorem dX0_clear_50 : decode cX0_clear 50 = .ok (.iconst 0, 1) := by decide +kernel
theorem dX0_clear_51 : decode cX0_clear 51 = .ok (.putfield 68, 3) := by decide +kernel
theorem dX0_clear_54 : decode cX0_clear 54 = .ok (.aload_n 0, 1) := by decide +kernel
theorem dX0_clear_55 : decode cX0_clear 55 = .ok (.iconst (-1), 1) := by decide +kernel
theorem dX0_clear_56 : decode cX0_clear 56 = .ok (.putfield 71, 3) := by decide +kernel
theorem dX0_clear_59 : decode cX0_clear 59 = .ok (.aload_n 0, 1) := by decide +kernel
theorem dX0_clear_60 : decode cX0_clear 60 = .ok (.iconst (-1), 1) := by decide +kernel
theorem dX0_clear_61 : decode cX0_clear 61 = .ok (.putfield 74, 3) := by decide +kernel
theorem dX0_clear_64 : decode cX0_clear 64 = .ok (.aload_n 0, 1) := by decide +kernel
theorem dX0_clear_65 : decode cX0_clear 65 = .ok (.getfield 32, 3) := by decide +kernel
theorem dX0_clear_68 : decode cX0_clear 68 = .ok (.invokevirtual 77, 3) := by decide +kernel
theorem dX0_clear_71 : decode cX0_clear 71 = .ok (.aload_n 0, 1) := by decide +kernel
theorem dX0_clear_72 : decode cX0_clear 72 = .ok (.getfield 36, 3) := by decide +kernel
theorem dX0_clear_75 : decode cX0_clear 75 = .ok (.invokevirtual 77, 3) := by decide +kernel
theorem dX0_clear_78 : decode cX0_clear 78 = .ok (.aload_n 0, 1) := by decide +kernel
theorem dX0_clear_79 : decode cX0_clear 79 = .ok (.iconst 0, 1) := by decide +kernel
theorem dX0_clear_80 : decode cX0_clear 80 = .ok (.putfield 78, 3) := by decide +kernel
theorem dX0_clear_83 : decode cX0_clear 83 = .ok (.return_, 1) := by decide +kernel
theorem dX0_addCell_0 : decode cX0_addCell 0 = .ok (.aload_n 0, 1) := by decide +kernel
theorem dX0_addCell_1 : decode cX0_addCell 1 = .ok (.getfield 9, 3) := by decide +kernel
theorem dX0_addCell_4 : decode cX0_addCell 4 = .ok (.iload_n 1, 1) := by decide +kernel
theorem dX0_addCell_5 : decode cX0_addCell 5 = .ok (.bipush 10, 2) := by decide +kernel
theorem dX0_addCell_7 : decode cX0_addCell 7 = .ok (.imul, 1) := by decide +kernel
theorem dX0_addCell_8 : decode cX0_addCell 8 = .ok (.iload_n 2, 1) := by decide +kernel
theorem dX0_addCell_9 : decode cX0_addCell 9 = .ok (.iadd, 1) := by decide +kernel
theorem dX0_addCell_10 : decode cX0_addCell 10 = .ok (.iload_n 3, 1) := by decide +kernel
theorem dX0_addCell_11 : decode cX0_addCell 11 = .ok (.iastore, 1) := by decide +kernel
theorem dX0_addCell_12 : decode cX0_addCell 12 = .ok (.iload_n 3, 1) := by decide +kernel
theorem dX0_addCell_13 : decode cX0_addCell 13 = .ok (.invokestatic 58, 3) := by decide +kernel
theorem dX0_addCell_16 : decode cX0_addCell 16 = .ok (.ifCond .eq 31, 3) := by decide +kernel
theorem dX0_addCell_19 : decode cX0_addCell 19 = .ok (.aload_n 0, 1) := by decide +kernel
theorem dX0_addCell_20 : decode cX0_addCell 20 = .ok (.getfield 71, 3) := by decide +kernel
theorem dX0_addCell_23 : decode cX0_addCell 23 = .ok (.iconst (-1), 1) := by decide +kernel
theorem dX0_addCell_24 : decode cX0_addCell 24 = .ok (.if_icmp .ne 11, 3) := by decide +kernel
theorem dX0_addCell_27 : decode cX0_addCell 27 = .ok (.aload_n 0, 1) := by decide +kernel
theorem dX0_addCell_28 : decode cX0_addCell 28 = .ok (.aload_n 0, 1) := by decide +kernel
theorem dX0_addCell_29 : decode cX0_addCell 29 = .ok (.getfield 68, 3) := by decide +kernel
theorem dX0_addCell_32 : decode cX0_addCell 32 = .ok (.putfield 71, 3) := by decide +kernel
theorem dX0_addCell_35 : decode cX0_addCell 35 = .ok (.aload_n 0, 1) := by decide +kernel
theorem dX0_addCell_36 : decode cX0_addCell 36 = .ok (.aload_n 0, 1) := by decide +kernel
theorem dX0_addCell_37 : decode cX0_addCell 37 = .ok (.getfield 74, 3) := by decide +kernel
theorem dX0_addCell_40 : decode cX0_addCell 40 = .ok (.iload_n 2, 1) := by decide +kernel
theorem dX0_addCell_41 : decode cX0_addCell 41 = .ok (.invokestatic 81, 3) := by decide +kernel
theorem dX0_addCell_44 : decode cX0_addCell 44 = .ok (.putfield 74, 3) := by decide +kernel
theorem dX0_addCell_47 : decode cX0_addCell 47 = .ok (.aload_n 0, 1) := by decide +kernel
theorem dX0_addCell_48 : decode cX0_addCell 48 = .ok (.getfield 21, 3) := by decide +kernel
theorem dX0_addCell_51 : decode cX0_addCell 51 = .ok (.iload_n 1, 1) := by decide +kernel
theorem dX0_addCell_52 : decode cX0_addCell 52 = .ok (.iaload, 1) := by decide +kernel
theorem dX0_addCell_53 : decode cX0_addCell 53 = .ok (.iconst (-1), 1) := by decide +kernel
theorem dX0_addCell_54 : decode cX0_addCell 54 = .ok (.if_icmp .ne 10, 3) := by decide +kernel
theorem dX0_addCell_57 : decode cX0_addCell 57 = .ok (.aload_n 0, 1) := by decide +kernel
theorem dX0_addCell_58 : decode cX0_addCell 58 = .ok (.getfield 21, 3) := by decide +kernel
theorem dX0_addCell_61 : decode cX0_addCell 61 = .ok (.iload_n 1, 1) := by decide +kernel
theorem dX0_addCell_62 : decode cX0_addCell 62 = .ok (.iload_n 2, 1) := by decide +kernel
theorem dX0_addCell_63 : decode cX0_addCell 63 = .ok (.iastore, 1) := by decide +kernel
theorem dX0_addCell_64 : decode cX0_addCell 64 = .ok (.aload_n 0, 1) := by decide +kernel
theorem dX0_addCell_65 : decode cX0_addCell 65 = .ok (.getfield 24, 3) := by decide +kernel
theorem dX0_addCell_68 : decode cX0_addCell 68 = .ok (.iload_n 1, 1) := by decide +kernel
theorem dX0_addCell_69 : decode cX0_addCell 69 = .ok (.iload_n 2, 1) := by decide +kernel
theorem dX0_addCell_70 : decode cX0_addCell 70 = .ok (.iastore, 1) := by decide +kernel
theorem dX0_addCell_71 : decode cX0_addCell 71 = .ok (.aload_n 0, 1) := by decide +kernel
theorem dX0_addCell_72 : decode cX0_addCell 72 = .ok (.getfield 32, 3) := by decide +kernel
theorem dX0_addCell_75 : decode cX0_addCell 75 = .ok (.getfield 87, 3) := by decide +kernel
theorem dX0_addCell_78 : decode cX0_addCell 78 = .ok (.iload_n 1, 1) := by decide +kernel
theorem dX0_addCell_79 : decode cX0_addCell 79 = .ok (.iconst 1, 1) := by decide +kernel
theorem dX0_addCell_80 : decode cX0_addCell 80 = .ok (.bastore, 1) := by decide +kernel
theorem dX0_addCell_81 : decode cX0_addCell 81 = .ok (.aload_n 0, 1) := by decide +kernel
theorem dX0_addCell_82 : decode cX0_addCell 82 = .ok (.getfield 36, 3) := by decide +kernel
theorem dX0_addCell_85 : decode cX0_addCell 85 = .ok (.getfield 87, 3) := by decide +kernel
theorem dX0_addCell_88 : decode cX0_addCell 88 = .ok (.iload_n 2, 1) := by decide +kernel
theorem dX0_addCell_89 : decode cX0_addCell 89 = .ok (.iconst 1, 1) := by decide +kernel
theorem dX0_addCell_90 : decode cX0_addCell 90 = .ok (.bastore, 1) := by decide +kernel
theorem dX0_addCell_91 : decode cX0_addCell 91 = .ok (.aload_n 0, 1) := by decide +kernel
theorem dX0_addCell_92 : decode cX0_addCell 92 = .ok (.getfield 15, 3) := by decide +kernel
theorem dX0_addCell_95 : decode cX0_addCell 95 = .ok (.aload_n 0, 1) := by decide +kernel
theorem dX0_addCell_96 : decode cX0_addCell 96 = .ok (.getfield 68, 3) := by decide +kernel
theorem dX0_addCell_99 : decode cX0_addCell 99 = .ok (.iload_n 1, 1) := by decide +kernel
theorem dX0_addCell_100 : decode cX0_addCell 100 = .ok (.iastore, 1) := by decide +kernel
theorem dX0_addCell_101 : decode cX0_addCell 101 = .ok (.aload_n 0, 1) := by decide +kernel
theorem dX0_addCell_102 : decode cX0_addCell 102 = .ok (.getfield 18, 3) := by decide +kernel
theorem dX0_addCell_105 : decode cX0_addCell 105 = .ok (.aload_n 0, 1) := by decide +kernel
theorem dX0_addCell_106 : decode cX0_addCell 106 = .ok (.getfield 68, 3) := by decide +kernel
theorem dX0_addCell_109 : decode cX0_addCell 109 = .ok (.iload_n 2, 1) := by decide +kernel
theorem dX0_addCell_110 : decode cX0_addCell 110 = .ok (.iastore, 1) := by decide +kernel
theorem dX0_addCell_111 : decode cX0_addCell 111 = .ok (.aload_n 0, 1) := by decide +kernel
theorem dX0_addCell_112 : decode cX0_addCell 112 = .ok (.dup, 1) := by decide +kernel
theorem dX0_addCell_113 : decode cX0_addCell 113 = .ok (.getfield 68, 3) := by decide +kernel
theorem dX0_addCell_116 : decode cX0_addCell 116 = .ok (.iconst 1, 1) := by decide +kernel
theorem dX0_addCell_117 : decode cX0_addCell 117 = .ok (.iadd, 1) := by decide +kernel
theorem dX0_addCell_118 : decode cX0_addCell 118 = .ok (.putfield 68, 3) := by decide +kernel
theorem dX0_addCell_121 : decode cX0_addCell 121 = .ok (.return_, 1) := by decide +kernel
theorem dX0_hasCell_0 : decode cX0_hasCell 0 = .ok (.iload_n 1, 1) := by decide +kernel
theorem dX0_hasCell_1 : decode cX0_hasCell 1 = .ok (.ifCond .lt 38, 3) := by decide +kernel
theorem dX0_hasCell_4 : decode cX0_hasCell 4 = .ok (.iload_n 1, 1) := by decide +kernel
theorem dX0_hasCell_5 : decode cX0_hasCell 5 = .ok (.iconst 5, 1) := by decide +kernel
theorem dX0_hasCell_6 : decode cX0_hasCell 6 = .ok (.if_icmp .ge 33, 3) := by decide +kernel
theorem dX0_hasCell_9 : decode cX0_hasCell 9 = .ok (.iload_n 2, 1) := by decide +kernel
theorem dX0_hasCell_10 : decode cX0_hasCell 10 = .ok (.ifCond .lt 29, 3) := by decide +kernel
theorem dX0_hasCell_13 : decode cX0_hasCell 13 = .ok (.iload_n 2, 1) := by decide +kernel
theorem dX0_hasCell_14 : decode cX0_hasCell 14 = .ok (.bipush 10, 2) := by decide +kernel
theorem dX0_hasCell_16 : decode cX0_hasCell 16 = .ok (.if_icmp .ge 23, 3) := by decide +kernel
theorem dX0_hasCell_19 : decode cX0_hasCell 19 = .ok (.aload_n 0, 1) := by decide +kernel
theorem dX0_hasCell_20 : decode cX0_hasCell 20 = .ok (.getfield 9, 3) := by decide +kernel
theorem dX0_hasCell_23 : decode cX0_hasCell 23 = .ok (.iload_n 1, 1) := by decide +kernel
theorem dX0_hasCell_24 : decode cX0_hasCell 24 = .ok (.bipush 10, 2) := by decide +kernel
theorem dX0_hasCell_26 : decode cX0_hasCell 26 = .ok (.imul, 1) := by decide +kernel
theorem dX0_hasCell_27 : decode cX0_hasCell 27 = .ok (.iload_n 2, 1) := by decide +kernel
theorem dX0_hasCell_28 : decode cX0_hasCell 28 = .ok (.iadd, 1) := by decide +kernel
theorem dX0_hasCell_29 : decode cX0_hasCell 29 = .ok (.iaload, 1) := by decide +kernel
theorem dX0_hasCell_30 : decode cX0_hasCell 30 = .ok (.bipush 95, 2) := by decide +kernel
theorem dX0_hasCell_32 : decode cX0_hasCell 32 = .ok (.if_icmp .eq 7, 3) := by decide +kernel
theorem dX0_hasCell_35 : decode cX0_hasCell 35 = .ok (.iconst 1, 1) := by decide +kernel
theorem dX0_hasCell_36 : decode cX0_hasCell 36 = .ok (.goto 4, 3) := by decide +kernel
theorem dX0_hasCell_39 : decode cX0_hasCell 39 = .ok (.iconst 0, 1) := by decide +kernel
theorem dX0_hasCell_40 : decode cX0_hasCell 40 = .ok (.ireturn, 1) := by decide +kernel
theorem dX0_addHole_0 : decode cX0_addHole 0 = .ok (.aload_n 0, 1) := by decide +kernel
theorem dX0_addHole_1 : decode cX0_addHole 1 = .ok (.getfield 78, 3) := by decide +kernel
theorem dX0_addHole_4 : decode cX0_addHole 4 = .ok (.ifCond .eq 18, 3) := by decide +kernel
theorem dX0_addHole_7 : decode cX0_addHole 7 = .ok (.iload_n 1, 1) := by decide +kernel
theorem dX0_addHole_8 : decode cX0_addHole 8 = .ok (.aload_n 0, 1) := by decide +kernel
theorem dX0_addHole_9 : decode cX0_addHole 9 = .ok (.getfield 39, 3) := by decide +kernel
theorem dX0_addHole_12 : decode cX0_addHole 12 = .ok (.aload_n 0, 1) := by decide +kernel
theorem dX0_addHole_13 : decode cX0_addHole 13 = .ok (.getfield 78, 3) := by decide +kernel
theorem dX0_addHole_16 : decode cX0_addHole 16 = .ok (.iconst 1, 1) := by decide +kernel
theorem dX0_addHole_17 : decode cX0_addHole 17 = .ok (.isub, 1) := by decide +kernel
theorem dX0_addHole_18 : decode cX0_addHole 18 = .ok (.iaload, 1) := by decide +kernel
theorem dX0_addHole_19 : decode cX0_addHole 19 = .ok (.if_icmp .le 7, 3) := by decide +kernel
theorem dX0_addHole_22 : decode cX0_addHole 22 = .ok (.iconst 1, 1) := by decide +kernel
theorem dX0_addHole_23 : decode cX0_addHole 23 = .ok (.goto 4, 3) := by decide +kernel
theorem dX0_addHole_26 : decode cX0_addHole 26 = .ok (.iconst 0, 1) := by decide +kernel
theorem dX0_addHole_27 : decode cX0_addHole 27 = .ok (.istore_n 2, 1) := by decide +kernel
theorem dX0_addHole_28 : decode cX0_addHole 28 = .ok (.aload_n 0, 1) := by decide +kernel
theorem dX0_addHole_29 : decode cX0_addHole 29 = .ok (.getfield 78, 3) := by decide +kernel
theorem dX0_addHole_32 : decode cX0_addHole 32 = .ok (.bipush 6, 2) := by decide +kernel
theorem dX0_addHole_34 : decode cX0_addHole 34 = .ok (.if_icmp .ge 7, 3) := by decide +kernel
theorem dX0_addHole_37 : decode cX0_addHole 37 = .ok (.iload_n 2, 1) := by decide +kernel
theorem dX0_addHole_38 : decode cX0_addHole 38 = .ok (.ifCond .ne 5, 3) := by decide +kernel
theorem dX0_addHole_41 : decode cX0_addHole 41 = .ok (.iconst (-1), 1) := by decide +kernel
theorem dX0_addHole_42 : decode cX0_addHole 42 = .ok (.ireturn, 1) := by decide +kernel
theorem dX0_addHole_43 : decode cX0_addHole 43 = .ok (.aload_n 0, 1) := by decide +kernel
theorem dX0_addHole_44 : decode cX0_addHole 44 = .ok (.getfield 39, 3) := by decide +kernel
theorem dX0_addHole_47 : decode cX0_addHole 47 = .ok (.aload_n 0, 1) := by decide +kernel
theorem dX0_addHole_48 : decode cX0_addHole 48 = .ok (.getfield 78, 3) := by decide +kernel
theorem dX0_addHole_51 : decode cX0_addHole 51 = .ok (.iload_n 1, 1) := by decide +kernel
theorem dX0_addHole_52 : decode cX0_addHole 52 = .ok (.iastore, 1) := by decide +kernel
theorem dX0_addHole_53 : decode cX0_addHole 53 = .ok (.aload_n 0, 1) := by decide +kernel
theorem dX0_addHole_54 : decode cX0_addHole 54 = .ok (.dup, 1) := by decide +kernel
theorem dX0_addHole_55 : decode cX0_addHole 55 = .ok (.getfield 78, 3) := by decide +kernel
theorem dX0_addHole_58 : decode cX0_addHole 58 = .ok (.iconst 1, 1) := by decide +kernel
theorem dX0_addHole_59 : decode cX0_addHole 59 = .ok (.iadd, 1) := by decide +kernel
theorem dX0_addHole_60 : decode cX0_addHole 60 = .ok (.putfield 78, 3) := by decide +kernel
theorem dX0_addHole_63 : decode cX0_addHole 63 = .ok (.aload_n 0, 1) := by decide +kernel
theorem dX0_addHole_64 : decode cX0_addHole 64 = .ok (.getfield 78, 3) := by decide +kernel
theorem dX0_addHole_67 : decode cX0_addHole 67 = .ok (.ireturn, 1) := by decide +kernel
theorem dX1_init_0 : decode cX1_init 0 = .ok (.aload_n 0, 1) := by decide +kernel
theorem dX1_init_1 : decode cX1_init 1 = .ok (.invokespecial 3, 3) := by decide +kernel
theorem dX1_init_4 : decode cX1_init 4 = .ok (.aload_n 0, 1) := by decide +kernel
theorem dX1_init_5 : decode cX1_init 5 = .ok (.iload_n 1, 1) := by decide +kernel
theorem dX1_init_6 : decode cX1_init 6 = .ok (.newarray .int, 2) := by decide +kernel
theorem dX1_init_8 : decode cX1_init 8 = .ok (.putfield 9, 3) := by decide +kernel
theorem dX1_init_11 : decode cX1_init 11 = .ok (.aload_n 0, 1) := by decide +kernel
theorem dX1_init_12 : decode cX1_init 12 = .ok (.iload_n 1, 1) := by decide +kernel
theorem dX1_init_13 : decode cX1_init 13 = .ok (.newarray .boolean, 2) := by decide +kernel
theorem dX1_init_15 : decode cX1_init 15 = .ok (.putfield 15, 3) := by decide +kernel
theorem dX1_init_18 : decode cX1_init 18 = .ok (.return_, 1) := by decide +kernel
theorem dX1_clear_0 : decode cX1_clear 0 = .ok (.iconst 0, 1) := by decide +kernel
theorem dX1_clear_1 : decode cX1_clear 1 = .ok (.istore_n 1, 1) := by decide +kernel
theorem dX1_clear_2 : decode cX1_clear 2 = .ok (.iload_n 1, 1) := by decide +kernel
theorem dX1_clear_3 : decode cX1_clear 3 = .ok (.aload_n 0, 1) := by decide +kernel
theorem dX1_clear_4 : decode cX1_clear 4 = .ok (.getfield 9, 3) := by decide +kernel
theorem dX1_clear_7 : decode cX1_clear 7 = .ok (.arraylength, 1) := by decide +kernel
theorem dX1_clear_8 : decode cX1_clear 8 = .ok (.if_icmp .ge 23, 3) := by decide +kernel
theorem dX1_clear_11 : decode cX1_clear 11 = .ok (.aload_n 0, 1) := by decide +kernel
theorem dX1_clear_12 : decode cX1_clear 12 = .ok (.getfield 9, 3) := by decide +kernel
theorem dX1_clear_15 : decode cX1_clear 15 = .ok (.iload_n 1, 1) := by decide +kernel
theorem dX1_clear_16 : decode cX1_clear 16 = .ok (.iconst 0, 1) := by decide +kernel
theorem dX1_clear_17 : decode cX1_clear 17 = .ok (.iastore, 1) := by decide +kernel
theorem dX1_clear_18 : decode cX1_clear 18 = .ok (.aload_n 0, 1) := by decide +kernel
theorem dX1_clear_19 : decode cX1_clear 19 = .ok (.getfield 15, 3) := by decide +kernel
theorem dX1_clear_22 : decode cX1_clear 22 = .ok (.iload_n 1, 1) := by decide +kernel
theorem dX1_clear_23 : decode cX1_clear 23 = .ok (.iconst 0, 1) := by decide +kernel
theorem dX1_clear_24 : decode cX1_clear 24 = .ok (.bastore, 1) := by decide +kernel
theorem dX1_clear_25 : decode cX1_clear 25 = .ok (.iinc 1 1, 3) := by decide +kernel
theorem dX1_clear_28 : decode cX1_clear 28 = .ok (.goto (-26), 3) := by decide +kernel
theorem dX1_clear_31 : decode cX1_clear 31 = .ok (.return_, 1) := by decide +kernel
theorem dX1_told_0 : decode cX1_told 0 = .ok (.iload_n 1, 1) := by decide +kernel
theorem dX1_told_1 : decode cX1_told 1 = .ok (.ifCond .lt 12, 3) := by decide +kernel
theorem dX1_told_4 : decode cX1_told 4 = .ok (.iload_n 1, 1) := by decide +kernel
theorem dX1_told_5 : decode cX1_told 5 = .ok (.aload_n 0, 1) := by decide +kernel
theorem dX1_told_6 : decode cX1_told 6 = .ok (.getfield 9, 3) := by decide +kernel
theorem dX1_told_9 : decode cX1_told 9 = .ok (.arraylength, 1) := by decide +kernel
theorem dX1_told_10 : decode cX1_told 10 = .ok (.if_icmp .lt 5, 3) := by decide +kernel
theorem dX1_told_13 : decode cX1_told 13 = .ok (.iconst 0, 1) := by decide +kernel
theorem dX1_told_14 : decode cX1_told 14 = .ok (.ireturn, 1) := by decide +kernel
theorem dX1_told_15 : decode cX1_told 15 = .ok (.aload_n 0, 1) := by decide +kernel
theorem dX1_told_16 : decode cX1_told 16 = .ok (.getfield 15, 3) := by decide +kernel
theorem dX1_told_19 : decode cX1_told 19 = .ok (.iload_n 1, 1) := by decide +kernel
theorem dX1_told_20 : decode cX1_told 20 = .ok (.baload, 1) := by decide +kernel
theorem dX1_told_21 : decode cX1_told 21 = .ok (.ifCond .eq 12, 3) := by decide +kernel
theorem dX1_told_24 : decode cX1_told 24 = .ok (.aload_n 0, 1) := by decide +kernel
theorem dX1_told_25 : decode cX1_told 25 = .ok (.getfield 9, 3) := by decide +kernel
theorem dX1_told_28 : decode cX1_told 28 = .ok (.iload_n 1, 1) := by decide +kernel
theorem dX1_told_29 : decode cX1_told 29 = .ok (.iaload, 1) := by decide +kernel
theorem dX1_told_30 : decode cX1_told 30 = .ok (.goto 4, 3) := by decide +kernel
theorem dX1_told_33 : decode cX1_told 33 = .ok (.iconst 0, 1) := by decide +kernel
theorem dX1_told_34 : decode cX1_told 34 = .ok (.ireturn, 1) := by decide +kernel
theorem dX1_worthBeside_0 : decode cX1_worthBeside 0 = .ok (.iconst 0, 1) := by decide +kernel
theorem dX1_worthBeside_1 : decode cX1_worthBeside 1 = .ok (.istore_n 3, 1) := by decide +kernel
theorem dX1_worthBeside_2 : decode cX1_worthBeside 2 = .ok (.iconst 0, 1) := by decide +kernel
theorem dX1_worthBeside_3 : decode cX1_worthBeside 3 = .ok (.istore 4, 2) := by decide +kernel
theorem dX1_worthBeside_5 : decode cX1_worthBeside 5 = .ok (.iload 4, 2) := by decide +kernel
theorem dX1_worthBeside_7 : decode cX1_worthBeside 7 = .ok (.aload_n 0, 1) := by decide +kernel
theorem dX1_worthBeside_8 : decode cX1_worthBeside 8 = .ok (.getfield 9, 3) := by decide +kernel
theorem dX1_worthBeside_11 : decode cX1_worthBeside 11 = .ok (.arraylength, 1) := by decide +kernel
theorem dX1_worthBeside_12 : decode cX1_worthBeside 12 = .ok (.if_icmp .ge 49, 3) := by decide +kernel
theorem dX1_worthBeside_15 : decode cX1_worthBeside 15 = .ok (.aload_n 0, 1) := by decide +kernel
theorem dX1_worthBeside_16 : decode cX1_worthBeside 16 = .ok (.iload 4, 2) := by decide +kernel
theorem dX1_worthBeside_18 : decode cX1_worthBeside 18 = .ok (.invokevirtual 19, 3) := by decide +kernel
theorem dX1_worthBeside_21 : decode cX1_worthBeside 21 = .ok (.istore 5, 2) := by decide +kernel
theorem dX1_worthBeside_23 : decode cX1_worthBeside 23 = .ok (.aload_n 1, 1) := by decide +kernel
theorem dX1_worthBeside_24 : decode cX1_worthBeside 24 = .ok (.iload 4, 2) := by decide +kernel
theorem dX1_worthBeside_26 : decode cX1_worthBeside 26 = .ok (.iload_n 2, 1) := by decide +kernel
theorem dX1_worthBeside_27 : decode cX1_worthBeside 27 = .ok (.isub, 1) := by decide +kernel
theorem dX1_worthBeside_28 : decode cX1_worthBeside 28 = .ok (.invokevirtual 19, 3) := by decide +kernel
theorem dX1_worthBeside_31 : decode cX1_worthBeside 31 = .ok (.istore 6, 2) := by decide +kernel
theorem dX1_worthBeside_33 : decode cX1_worthBeside 33 = .ok (.iload 5, 2) := by decide +kernel
theorem dX1_worthBeside_35 : decode cX1_worthBeside 35 = .ok (.ifCond .eq 20, 3) := by decide +kernel
theorem dX1_worthBeside_38 : decode cX1_worthBeside 38 = .ok (.iload 6, 2) := by decide +kernel
theorem dX1_worthBeside_40 : decode cX1_worthBeside 40 = .ok (.ifCond .eq 15, 3) := by decide +kernel
theorem dX1_worthBeside_43 : decode cX1_worthBeside 43 = .ok (.iload 5, 2) := by decide +kernel
theorem dX1_worthBeside_45 : decode cX1_worthBeside 45 = .ok (.iload 6, 2) := by decide +kernel
theorem dX1_worthBeside_47 : decode cX1_worthBeside 47 = .ok (.if_icmp .eq 5, 3) := by decide +kernel
theorem dX1_worthBeside_50 : decode cX1_worthBeside 50 = .ok (.iconst (-1), 1) := by decide +kernel
theorem dX1_worthBeside_51 : decode cX1_worthBeside 51 = .ok (.ireturn, 1) := by decide +kernel
theorem dX1_worthBeside_52 : decode cX1_worthBeside 52 = .ok (.iinc 3 2, 3) := by decide +kernel
theorem dX1_worthBeside_55 : decode cX1_worthBeside 55 = .ok (.iinc 4 1, 3) := by decide +kernel
theorem dX1_worthBeside_58 : decode cX1_worthBeside 58 = .ok (.goto (-53), 3) := by decide +kernel
theorem dX1_worthBeside_61 : decode cX1_worthBeside 61 = .ok (.iload_n 3, 1) := by decide +kernel
theorem dX1_worthBeside_62 : decode cX1_worthBeside 62 = .ok (.ireturn, 1) := by decide +kernel
theorem dX2_init_0 : decode cX2_init 0 = .ok (.aload_n 0, 1) := by decide +kernel
theorem dX2_init_1 : decode cX2_init 1 = .ok (.invokespecial 3, 3) := by decide +kernel
theorem dX2_init_4 : decode cX2_init 4 = .ok (.aload_n 0, 1) := by decide +kernel
theorem dX2_init_5 : decode cX2_init 5 = .ok (.sipush 200, 3) := by decide +kernel
theorem dX2_init_8 : decode cX2_init 8 = .ok (.newarray .int, 2) := by decide +kernel
theorem dX2_init_10 : decode cX2_init 10 = .ok (.putfield 9, 3) := by decide +kernel
theorem dX2_init_13 : decode cX2_init 13 = .ok (.return_, 1) := by decide +kernel
theorem dX2_become_0 : decode cX2_become 0 = .ok (.aload_n 1, 1) := by decide +kernel
theorem dX2_become_1 : decode cX2_become 1 = .ok (.getfield 15, 3) := by decide +kernel
theorem dX2_become_4 : decode cX2_become 4 = .ok (.iconst 0, 1) := by decide +kernel
theorem dX2_become_5 : decode cX2_become 5 = .ok (.aload_n 0, 1) := by decide +kernel
theorem dX2_become_6 : decode cX2_become 6 = .ok (.getfield 9, 3) := by decide +kernel
theorem dX2_become_9 : decode cX2_become 9 = .ok (.iconst 0, 1) := by decide +kernel
theorem dX2_become_10 : decode cX2_become 10 = .ok (.aload_n 1, 1) := by decide +kernel
theorem dX2_become_11 : decode cX2_become 11 = .ok (.getfield 20, 3) := by decide +kernel
theorem dX2_become_14 : decode cX2_become 14 = .ok (.invokestatic 24, 3) := by decide +kernel
theorem dX2_become_17 : decode cX2_become 17 = .ok (.aload_n 0, 1) := by decide +kernel
theorem dX2_become_18 : decode cX2_become 18 = .ok (.aload_n 1, 1) := by decide +kernel
theorem dX2_become_19 : decode cX2_become 19 = .ok (.getfield 20, 3) := by decide +kernel
theorem dX2_become_22 : decode cX2_become 22 = .ok (.putfield 30, 3) := by decide +kernel
theorem dX2_become_25 : decode cX2_become 25 = .ok (.return_, 1) := by decide +kernel
theorem dX2_countTimes_0 : decode cX2_countTimes 0 = .ok (.iconst 0, 1) := by decide +kernel
theorem dX2_countTimes_1 : decode cX2_countTimes 1 = .ok (.istore_n 3, 1) := by decide +kernel
theorem dX2_countTimes_2 : decode cX2_countTimes 2 = .ok (.iconst 0, 1) := by decide +kernel
theorem dX2_countTimes_3 : decode cX2_countTimes 3 = .ok (.istore 4, 2) := by decide +kernel
theorem dX2_countTimes_5 : decode cX2_countTimes 5 = .ok (.iload 4, 2) := by decide +kernel
theorem dX2_countTimes_7 : decode cX2_countTimes 7 = .ok (.aload_n 0, 1) := by decide +kernel
theorem dX2_countTimes_8 : decode cX2_countTimes 8 = .ok (.getfield 30, 3) := by decide +kernel
theorem dX2_countTimes_11 : decode cX2_countTimes 11 = .ok (.if_icmp .ge 30, 3) := by decide +kernel
theorem dX2_countTimes_14 : decode cX2_countTimes 14 = .ok (.aload_n 0, 1) := by decide +kernel
theorem dX2_countTimes_15 : decode cX2_countTimes 15 = .ok (.aload_n 1, 1) := by decide +kernel
theorem dX2_countTimes_16 : decode cX2_countTimes 16 = .ok (.iload_n 2, 1) := by decide +kernel
theorem dX2_countTimes_17 : decode cX2_countTimes 17 = .ok (.iload 4, 2) := by decide +kernel
theorem dX2_countTimes_19 : decode cX2_countTimes 19 = .ok (.aload_n 0, 1) := by decide +kernel
theorem dX2_countTimes_20 : decode cX2_countTimes 20 = .ok (.aload_n 1, 1) := by decide +kernel
theorem dX2_countTimes_21 : decode cX2_countTimes 21 = .ok (.iload_n 2, 1) := by decide +kernel
theorem dX2_countTimes_22 : decode cX2_countTimes 22 = .ok (.invokevirtual 31, 3) := by decide +kernel
theorem dX2_countTimes_25 : decode cX2_countTimes 25 = .ok (.isub, 1) := by decide +kernel
theorem dX2_countTimes_26 : decode cX2_countTimes 26 = .ok (.invokevirtual 35, 3) := by decide +kernel
theorem dX2_countTimes_29 : decode cX2_countTimes 29 = .ok (.ifCond .eq 6, 3) := by decide +kernel
theorem dX2_countTimes_32 : decode cX2_countTimes 32 = .ok (.iinc 3 1, 3) := by decide +kernel
theorem dX2_countTimes_35 : decode cX2_countTimes 35 = .ok (.iinc 4 1, 3) := by decide +kernel
theorem dX2_countTimes_38 : decode cX2_countTimes 38 = .ok (.goto (-33), 3) := by decide +kernel
theorem dX2_countTimes_41 : decode cX2_countTimes 41 = .ok (.iload_n 3, 1) := by decide +kernel
theorem dX2_countTimes_42 : decode cX2_countTimes 42 = .ok (.ireturn, 1) := by decide +kernel
theorem dX2_timeOf_0 : decode cX2_timeOf 0 = .ok (.iconst 0, 1) := by decide +kernel
theorem dX2_timeOf_1 : decode cX2_timeOf 1 = .ok (.istore 4, 2) := by decide +kernel
theorem dX2_timeOf_3 : decode cX2_timeOf 3 = .ok (.iconst 0, 1) := by decide +kernel
theorem dX2_timeOf_4 : decode cX2_timeOf 4 = .ok (.istore 5, 2) := by decide +kernel
theorem dX2_timeOf_6 : decode cX2_timeOf 6 = .ok (.iload 5, 2) := by decide +kernel
theorem dX2_timeOf_8 : decode cX2_timeOf 8 = .ok (.aload_n 0, 1) := by decide +kernel
theorem dX2_timeOf_9 : decode cX2_timeOf 9 = .ok (.getfield 30, 3) := by decide +kernel
theorem dX2_timeOf_12 : decode cX2_timeOf 12 = .ok (.if_icmp .ge 43, 3) := by decide +kernel
theorem dX2_timeOf_15 : decode cX2_timeOf 15 = .ok (.iload 5, 2) := by decide +kernel
theorem dX2_timeOf_17 : decode cX2_timeOf 17 = .ok (.aload_n 0, 1) := by decide +kernel
theorem dX2_timeOf_18 : decode cX2_timeOf 18 = .ok (.aload_n 1, 1) := by decide +kernel
theorem dX2_timeOf_19 : decode cX2_timeOf 19 = .ok (.iload_n 2, 1) := by decide +kernel
theorem dX2_timeOf_20 : decode cX2_timeOf 20 = .ok (.invokevirtual 31, 3) := by decide +kernel
theorem dX2_timeOf_23 : decode cX2_timeOf 23 = .ok (.isub, 1) := by decide +kernel
theorem dX2_timeOf_24 : decode cX2_timeOf 24 = .ok (.istore 6, 2) := by decide +kernel
theorem dX2_timeOf_26 : decode cX2_timeOf 26 = .ok (.aload_n 0, 1) := by decide +kernel
theorem dX2_timeOf_27 : decode cX2_timeOf 27 = .ok (.aload_n 1, 1) := by decide +kernel
theorem dX2_timeOf_28 : decode cX2_timeOf 28 = .ok (.iload_n 2, 1) := by decide +kernel
theorem dX2_timeOf_29 : decode cX2_timeOf 29 = .ok (.iload 6, 2) := by decide +kernel
theorem dX2_timeOf_31 : decode cX2_timeOf 31 = .ok (.invokevirtual 35, 3) := by decide +kernel
theorem dX2_timeOf_34 : decode cX2_timeOf 34 = .ok (.ifCond .eq 15, 3) := by decide +kernel
theorem dX2_timeOf_37 : decode cX2_timeOf 37 = .ok (.iload 4, 2) := by decide +kernel
theorem dX2_timeOf_39 : decode cX2_timeOf 39 = .ok (.iload_n 3, 1) := by decide +kernel
theorem dX2_timeOf_40 : decode cX2_timeOf 40 = .ok (.if_icmp .ne 6, 3) := by decide +kernel
theorem dX2_timeOf_43 : decode cX2_timeOf 43 = .ok (.iload 6, 2) := by decide +kernel
theorem dX2_timeOf_45 : decode cX2_timeOf 45 = .ok (.ireturn, 1) := by decide +kernel
theorem dX2_timeOf_46 : decode cX2_timeOf 46 = .ok (.iinc 4 1, 3) := by decide +kernel
theorem dX2_timeOf_49 : decode cX2_timeOf 49 = .ok (.iinc 5 1, 3) := by decide +kernel
theorem dX2_timeOf_52 : decode cX2_timeOf 52 = .ok (.goto (-46), 3) := by decide +kernel
theorem dX2_timeOf_55 : decode cX2_timeOf 55 = .ok (.sipush (-1000), 3) := by decide +kernel
theorem dX2_timeOf_58 : decode cX2_timeOf 58 = .ok (.ireturn, 1) := by decide +kernel
theorem dX2_firstShift_0 : decode cX2_firstShift 0 = .ok (.aload_n 1, 1) := by decide +kernel
theorem dX2_firstShift_1 : decode cX2_firstShift 1 = .ok (.getfield 39, 3) := by decide +kernel
theorem dX2_firstShift_4 : decode cX2_firstShift 4 = .ok (.istore_n 3, 1) := by decide +kernel
theorem dX2_firstShift_5 : decode cX2_firstShift 5 = .ok (.iload_n 3, 1) := by decide +kernel
theorem dX2_firstShift_6 : decode cX2_firstShift 6 = .ok (.iconst (-1), 1) := by decide +kernel
theorem dX2_firstShift_7 : decode cX2_firstShift 7 = .ok (.if_icmp .ne 7, 3) := by decide +kernel
theorem dX2_firstShift_10 : decode cX2_firstShift 10 = .ok (.iconst 0, 1) := by decide +kernel
theorem dX2_firstShift_11 : decode cX2_firstShift 11 = .ok (.goto 18, 3) := by decide +kernel
theorem dX2_firstShift_14 : decode cX2_firstShift 14 = .ok (.aload_n 1, 1) := by decide +kernel
theorem dX2_firstShift_15 : decode cX2_firstShift 15 = .ok (.getfield 44, 3) := by decide +kernel
theorem dX2_firstShift_18 : decode cX2_firstShift 18 = .ok (.iload_n 3, 1) := by decide +kernel
theorem dX2_firstShift_19 : decode cX2_firstShift 19 = .ok (.iaload, 1) := by decide +kernel
theorem dX2_firstShift_20 : decode cX2_firstShift 20 = .ok (.iload_n 2, 1) := by decide +kernel
theorem dX2_firstShift_21 : decode cX2_firstShift 21 = .ok (.imul, 1) := by decide +kernel
theorem dX2_firstShift_22 : decode cX2_firstShift 22 = .ok (.aload_n 1, 1) := by decide +kernel
theorem dX2_firstShift_23 : decode cX2_firstShift 23 = .ok (.getfield 47, 3) := by decide +kernel
theorem dX2_firstShift_26 : decode cX2_firstShift 26 = .ok (.iload_n 3, 1) := by decide +kernel
theorem dX2_firstShift_27 : decode cX2_firstShift 27 = .ok (.iaload, 1) := by decide +kernel
theorem dX2_firstShift_28 : decode cX2_firstShift 28 = .ok (.iadd, 1) := by decide +kernel
theorem dX2_firstShift_29 : decode cX2_firstShift 29 = .ok (.ireturn, 1) := by decide +kernel
theorem dX2_standsAt_0 : decode cX2_standsAt 0 = .ok (.aload_n 1, 1) := by decide +kernel
theorem dX2_standsAt_1 : decode cX2_standsAt 1 = .ok (.getfield 39, 3) := by decide +kernel
theorem dX2_standsAt_4 : decode cX2_standsAt 4 = .ok (.iconst (-1), 1) := by decide +kernel
theorem dX2_standsAt_5 : decode cX2_standsAt 5 = .ok (.if_icmp .eq 17, 3) := by decide +kernel
theorem dX2_standsAt_8 : decode cX2_standsAt 8 = .ok (.iload_n 3, 1) := by decide +kernel
theorem dX2_standsAt_9 : decode cX2_standsAt 9 = .ok (.iload_n 2, 1) := by decide +kernel
theorem dX2_standsAt_10 : decode cX2_standsAt 10 = .ok (.invokestatic 50, 3) := by decide +kernel
theorem dX2_standsAt_13 : decode cX2_standsAt 13 = .ok (.aload_n 1, 1) := by decide +kernel
theorem dX2_standsAt_14 : decode cX2_standsAt 14 = .ok (.getfield 56, 3) := by decide +kernel
theorem dX2_standsAt_17 : decode cX2_standsAt 17 = .ok (.iadd, 1) := by decide +kernel
theorem dX2_standsAt_18 : decode cX2_standsAt 18 = .ok (.iload_n 2, 1) := by decide +kernel
theorem dX2_standsAt_19 : decode cX2_standsAt 19 = .ok (.if_icmp .lt 5, 3) := by decide +kernel
theorem dX2_standsAt_22 : decode cX2_standsAt 22 = .ok (.iconst 0, 1) := by decide +kernel
theorem dX2_standsAt_23 : decode cX2_standsAt 23 = .ok (.ireturn, 1) := by decide +kernel
theorem dX2_standsAt_24 : decode cX2_standsAt 24 = .ok (.aload_n 1, 1) := by decide +kernel
theorem dX2_standsAt_25 : decode cX2_standsAt 25 = .ok (.getfield 39, 3) := by decide +kernel
theorem dX2_standsAt_28 : decode cX2_standsAt 28 = .ok (.istore 4, 2) := by decide +kernel
theorem dX2_standsAt_30 : decode cX2_standsAt 30 = .ok (.iload 4, 2) := by decide +kernel
theorem dX2_standsAt_32 : decode cX2_standsAt 32 = .ok (.aload_n 1, 1) := by decide +kernel
theorem dX2_standsAt_33 : decode cX2_standsAt 33 = .ok (.getfield 59, 3) := by decide +kernel
theorem dX2_standsAt_36 : decode cX2_standsAt 36 = .ok (.if_icmp .ge 76, 3) := by decide +kernel
theorem dX2_standsAt_39 : decode cX2_standsAt 39 = .ok (.aload_n 1, 1) := by decide +kernel
theorem dX2_standsAt_40 : decode cX2_standsAt 40 = .ok (.getfield 62, 3) := by decide +kernel
theorem dX2_standsAt_43 : decode cX2_standsAt 43 = .ok (.aload_n 1, 1) := by decide +kernel
theorem dX2_standsAt_44 : decode cX2_standsAt 44 = .ok (.getfield 44, 3) := by decide +kernel
theorem dX2_standsAt_47 : decode cX2_standsAt 47 = .ok (.iload 4, 2) := by decide +kernel
theorem dX2_standsAt_49 : decode cX2_standsAt 49 = .ok (.iaload, 1) := by decide +kernel
theorem dX2_standsAt_50 : decode cX2_standsAt 50 = .ok (.bipush 10, 2) := by decide +kernel
theorem dX2_standsAt_52 : decode cX2_standsAt 52 = .ok (.imul, 1) := by decide +kernel
theorem dX2_standsAt_53 : decode cX2_standsAt 53 = .ok (.aload_n 1, 1) := by decide +kernel
theorem dX2_standsAt_54 : decode cX2_standsAt 54 = .ok (.getfield 47, 3) := by decide +kernel
theorem dX2_standsAt_57 : decode cX2_standsAt 57 = .ok (.iload 4, 2) := by decide +kernel
theorem dX2_standsAt_59 : decode cX2_standsAt 59 = .ok (.iaload, 1) := by decide +kernel
theorem dX2_standsAt_60 : decode cX2_standsAt 60 = .ok (.iadd, 1) := by decide +kernel
theorem dX2_standsAt_61 : decode cX2_standsAt 61 = .ok (.iaload, 1) := by decide +kernel
theorem dX2_standsAt_62 : decode cX2_standsAt 62 = .ok (.istore 5, 2) := by decide +kernel
theorem dX2_standsAt_64 : decode cX2_standsAt 64 = .ok (.iload_n 3, 1) := by decide +kernel
theorem dX2_standsAt_65 : decode cX2_standsAt 65 = .ok (.aload_n 1, 1) := by decide +kernel
theorem dX2_standsAt_66 : decode cX2_standsAt 66 = .ok (.getfield 44, 3) := by decide +kernel
theorem dX2_standsAt_69 : decode cX2_standsAt 69 = .ok (.iload 4, 2) := by decide +kernel
theorem dX2_standsAt_71 : decode cX2_standsAt 71 = .ok (.iaload, 1) := by decide +kernel
theorem dX2_standsAt_72 : decode cX2_standsAt 72 = .ok (.iload_n 2, 1) := by decide +kernel
theorem dX2_standsAt_73 : decode cX2_standsAt 73 = .ok (.imul, 1) := by decide +kernel
theorem dX2_standsAt_74 : decode cX2_standsAt 74 = .ok (.iadd, 1) := by decide +kernel
theorem dX2_standsAt_75 : decode cX2_standsAt 75 = .ok (.aload_n 1, 1) := by decide +kernel
theorem dX2_standsAt_76 : decode cX2_standsAt 76 = .ok (.getfield 47, 3) := by decide +kernel
theorem dX2_standsAt_79 : decode cX2_standsAt 79 = .ok (.iload 4, 2) := by decide +kernel
theorem dX2_standsAt_81 : decode cX2_standsAt 81 = .ok (.iaload, 1) := by decide +kernel
theorem dX2_standsAt_82 : decode cX2_standsAt 82 = .ok (.iadd, 1) := by decide +kernel
theorem dX2_standsAt_83 : decode cX2_standsAt 83 = .ok (.istore 6, 2) := by decide +kernel
theorem dX2_standsAt_85 : decode cX2_standsAt 85 = .ok (.iload 5, 2) := by decide +kernel
theorem dX2_standsAt_87 : decode cX2_standsAt 87 = .ok (.invokestatic 65, 3) := by decide +kernel
theorem dX2_standsAt_90 : decode cX2_standsAt 90 = .ok (.ifCond .eq 16, 3) := by decide +kernel
theorem dX2_standsAt_93 : decode cX2_standsAt 93 = .ok (.aload_n 0, 1) := by decide +kernel
theorem dX2_standsAt_94 : decode cX2_standsAt 94 = .ok (.iload 6, 2) := by decide +kernel
theorem dX2_standsAt_96 : decode cX2_standsAt 96 = .ok (.iload 5, 2) := by decide +kernel
theorem dX2_standsAt_98 : decode cX2_standsAt 98 = .ok (.invokevirtual 69, 3) := by decide +kernel
theorem dX2_standsAt_101 : decode cX2_standsAt 101 = .ok (.ifCond .ne 5, 3) := by decide +kernel
theorem dX2_standsAt_104 : decode cX2_standsAt 104 = .ok (.iconst 0, 1) := by decide +kernel
theorem dX2_standsAt_105 : decode cX2_standsAt 105 = .ok (.ireturn, 1) := by decide +kernel
theorem dX2_standsAt_106 : decode cX2_standsAt 106 = .ok (.iinc 4 1, 3) := by decide +kernel
theorem dX2_standsAt_109 : decode cX2_standsAt 109 = .ok (.goto (-79), 3) := by decide +kernel
theorem dX2_standsAt_112 : decode cX2_standsAt 112 = .ok (.iconst 1, 1) := by decide +kernel
theorem dX2_standsAt_113 : decode cX2_standsAt 113 = .ok (.ireturn, 1) := by decide +kernel
theorem dX2_agrees_0 : decode cX2_agrees 0 = .ok (.iload_n 1, 1) := by decide +kernel
theorem dX2_agrees_1 : decode cX2_agrees 1 = .ok (.ifCond .lt 31, 3) := by decide +kernel
theorem dX2_agrees_4 : decode cX2_agrees 4 = .ok (.iload_n 1, 1) := by decide +kernel
theorem dX2_agrees_5 : decode cX2_agrees 5 = .ok (.aload_n 0, 1) := by decide +kernel
theorem dX2_agrees_6 : decode cX2_agrees 6 = .ok (.getfield 30, 3) := by decide +kernel
theorem dX2_agrees_9 : decode cX2_agrees 9 = .ok (.if_icmp .ge 23, 3) := by decide +kernel
theorem dX2_agrees_12 : decode cX2_agrees 12 = .ok (.iload_n 2, 1) := by decide +kernel
theorem dX2_agrees_13 : decode cX2_agrees 13 = .ok (.bipush 46, 2) := by decide +kernel
theorem dX2_agrees_15 : decode cX2_agrees 15 = .ok (.if_icmp .eq 13, 3) := by decide +kernel
theorem dX2_agrees_18 : decode cX2_agrees 18 = .ok (.aload_n 0, 1) := by decide +kernel
theorem dX2_agrees_19 : decode cX2_agrees 19 = .ok (.getfield 9, 3) := by decide +kernel
theorem dX2_agrees_22 : decode cX2_agrees 22 = .ok (.iload_n 1, 1) := by decide +kernel
theorem dX2_agrees_23 : decode cX2_agrees 23 = .ok (.iaload, 1) := by decide +kernel
theorem dX2_agrees_24 : decode cX2_agrees 24 = .ok (.iload_n 2, 1) := by decide +kernel
theorem dX2_agrees_25 : decode cX2_agrees 25 = .ok (.if_icmp .ne 7, 3) := by decide +kernel
theorem dX2_agrees_28 : decode cX2_agrees 28 = .ok (.iconst 1, 1) := by decide +kernel
theorem dX2_agrees_29 : decode cX2_agrees 29 = .ok (.goto 4, 3) := by decide +kernel
theorem dX2_agrees_32 : decode cX2_agrees 32 = .ok (.iconst 0, 1) := by decide +kernel
theorem dX2_agrees_33 : decode cX2_agrees 33 = .ok (.ireturn, 1) := by decide +kernel
theorem dX3_init_0 : decode cX3_init 0 = .ok (.aload_n 0, 1) := by decide +kernel
theorem dX3_init_1 : decode cX3_init 1 = .ok (.invokespecial 3, 3) := by decide +kernel
theorem dX3_init_4 : decode cX3_init 4 = .ok (.aload_n 0, 1) := by decide +kernel
theorem dX3_init_5 : decode cX3_init 5 = .ok (.iload_n 1, 1) := by decide +kernel
theorem dX3_init_6 : decode cX3_init 6 = .ok (.newarray .int, 2) := by decide +kernel
theorem dX3_init_8 : decode cX3_init 8 = .ok (.putfield 9, 3) := by decide +kernel
theorem dX3_init_11 : decode cX3_init 11 = .ok (.aload_n 0, 1) := by decide +kernel
theorem dX3_init_12 : decode cX3_init 12 = .ok (.iload_n 1, 1) := by decide +kernel
theorem dX3_init_13 : decode cX3_init 13 = .ok (.newarray .int, 2) := by decide +kernel
theorem dX3_init_15 : decode cX3_init 15 = .ok (.putfield 15, 3) := by decide +kernel
theorem dX3_init_18 : decode cX3_init 18 = .ok (.return_, 1) := by decide +kernel
theorem dX3_has_0 : decode cX3_has 0 = .ok (.iload_n 1, 1) := by decide +kernel
theorem dX3_has_1 : decode cX3_has 1 = .ok (.ifCond .lt 16, 3) := by decide +kernel
theorem dX3_has_4 : decode cX3_has 4 = .ok (.iload_n 1, 1) := by decide +kernel
theorem dX3_has_5 : decode cX3_has 5 = .ok (.aload_n 0, 1) := by decide +kernel
theorem dX3_has_6 : decode cX3_has 6 = .ok (.getfield 9, 3) := by decide +kernel
theorem dX3_has_9 : decode cX3_has 9 = .ok (.arraylength, 1) := by decide +kernel
theorem dX3_has_10 : decode cX3_has 10 = .ok (.if_icmp .ge 7, 3) := by decide +kernel
theorem dX3_has_13 : decode cX3_has 13 = .ok (.iconst 1, 1) := by decide +kernel
theorem dX3_has_14 : decode cX3_has 14 = .ok (.goto 4, 3) := by decide +kernel
theorem dX3_has_17 : decode cX3_has 17 = .ok (.iconst 0, 1) := by decide +kernel
theorem dX3_has_18 : decode cX3_has 18 = .ok (.ireturn, 1) := by decide +kernel
theorem dX3_worthOf_0 : decode cX3_worthOf 0 = .ok (.iconst 0, 1) := by decide +kernel
theorem dX3_worthOf_1 : decode cX3_worthOf 1 = .ok (.istore_n 3, 1) := by decide +kernel
theorem dX3_worthOf_2 : decode cX3_worthOf 2 = .ok (.iconst 0, 1) := by decide +kernel
theorem dX3_worthOf_3 : decode cX3_worthOf 3 = .ok (.istore 4, 2) := by decide +kernel
theorem dX3_worthOf_5 : decode cX3_worthOf 5 = .ok (.iload 4, 2) := by decide +kernel
theorem dX3_worthOf_7 : decode cX3_worthOf 7 = .ok (.aload_n 1, 1) := by decide +kernel
theorem dX3_worthOf_8 : decode cX3_worthOf 8 = .ok (.getfield 18, 3) := by decide +kernel
theorem dX3_worthOf_11 : decode cX3_worthOf 11 = .ok (.arraylength, 1) := by decide +kernel
theorem dX3_worthOf_12 : decode cX3_worthOf 12 = .ok (.if_icmp .ge 73, 3) := by decide +kernel
theorem dX3_worthOf_15 : decode cX3_worthOf 15 = .ok (.aload_n 1, 1) := by decide +kernel
theorem dX3_worthOf_16 : decode cX3_worthOf 16 = .ok (.iload 4, 2) := by decide +kernel
theorem dX3_worthOf_18 : decode cX3_worthOf 18 = .ok (.invokevirtual 21, 3) := by decide +kernel
theorem dX3_worthOf_21 : decode cX3_worthOf 21 = .ok (.istore 5, 2) := by decide +kernel
theorem dX3_worthOf_23 : decode cX3_worthOf 23 = .ok (.iload_n 2, 1) := by decide +kernel
theorem dX3_worthOf_24 : decode cX3_worthOf 24 = .ok (.iload 4, 2) := by decide +kernel
theorem dX3_worthOf_26 : decode cX3_worthOf 26 = .ok (.iadd, 1) := by decide +kernel
theorem dX3_worthOf_27 : decode cX3_worthOf 27 = .ok (.istore 6, 2) := by decide +kernel
theorem dX3_worthOf_29 : decode cX3_worthOf 29 = .ok (.iload 5, 2) := by decide +kernel
theorem dX3_worthOf_31 : decode cX3_worthOf 31 = .ok (.ifCond .eq 48, 3) := by decide +kernel
theorem dX3_worthOf_34 : decode cX3_worthOf 34 = .ok (.aload_n 0, 1) := by decide +kernel
theorem dX3_worthOf_35 : decode cX3_worthOf 35 = .ok (.iload 6, 2) := by decide +kernel
theorem dX3_worthOf_37 : decode cX3_worthOf 37 = .ok (.invokevirtual 25, 3) := by decide +kernel
theorem dX3_worthOf_40 : decode cX3_worthOf 40 = .ok (.ifCond .eq 39, 3) := by decide +kernel
theorem dX3_worthOf_43 : decode cX3_worthOf 43 = .ok (.aload_n 0, 1) := by decide +kernel
theorem dX3_worthOf_44 : decode cX3_worthOf 44 = .ok (.getfield 15, 3) := by decide +kernel
theorem dX3_worthOf_47 : decode cX3_worthOf 47 = .ok (.iload 6, 2) := by decide +kernel
theorem dX3_worthOf_49 : decode cX3_worthOf 49 = .ok (.iaload, 1) := by decide +kernel
theorem dX3_worthOf_50 : decode cX3_worthOf 50 = .ok (.ifCond .le 29, 3) := by decide +kernel
theorem dX3_worthOf_53 : decode cX3_worthOf 53 = .ok (.aload_n 0, 1) := by decide +kernel
theorem dX3_worthOf_54 : decode cX3_worthOf 54 = .ok (.getfield 9, 3) := by decide +kernel
theorem dX3_worthOf_57 : decode cX3_worthOf 57 = .ok (.iload 6, 2) := by decide +kernel
theorem dX3_worthOf_59 : decode cX3_worthOf 59 = .ok (.iaload, 1) := by decide +kernel
theorem dX3_worthOf_60 : decode cX3_worthOf 60 = .ok (.iload 5, 2) := by decide +kernel
theorem dX3_worthOf_62 : decode cX3_worthOf 62 = .ok (.if_icmp .eq 5, 3) := by decide +kernel
theorem dX3_worthOf_65 : decode cX3_worthOf 65 = .ok (.iconst (-1), 1) := by decide +kernel
theorem dX3_worthOf_66 : decode cX3_worthOf 66 = .ok (.ireturn, 1) := by decide +kernel
theorem dX3_worthOf_67 : decode cX3_worthOf 67 = .ok (.iload_n 3, 1) := by decide +kernel
theorem dX3_worthOf_68 : decode cX3_worthOf 68 = .ok (.iconst 2, 1) := by decide +kernel
theorem dX3_worthOf_69 : decode cX3_worthOf 69 = .ok (.aload_n 0, 1) := by decide +kernel
theorem dX3_worthOf_70 : decode cX3_worthOf 70 = .ok (.getfield 15, 3) := by decide +kernel
theorem dX3_worthOf_73 : decode cX3_worthOf 73 = .ok (.iload 6, 2) := by decide +kernel
theorem dX3_worthOf_75 : decode cX3_worthOf 75 = .ok (.iaload, 1) := by decide +kernel
theorem dX3_worthOf_76 : decode cX3_worthOf 76 = .ok (.imul, 1) := by decide +kernel
theorem dX3_worthOf_77 : decode cX3_worthOf 77 = .ok (.iadd, 1) := by decide +kernel
theorem dX3_worthOf_78 : decode cX3_worthOf 78 = .ok (.istore_n 3, 1) := by decide +kernel
theorem dX3_worthOf_79 : decode cX3_worthOf 79 = .ok (.iinc 4 1, 3) := by decide +kernel
theorem dX3_worthOf_82 : decode cX3_worthOf 82 = .ok (.goto (-77), 3) := by decide +kernel
theorem dX3_worthOf_85 : decode cX3_worthOf 85 = .ok (.iload_n 3, 1) := by decide +kernel
theorem dX3_worthOf_86 : decode cX3_worthOf 86 = .ok (.ireturn, 1) := by decide +kernel
theorem dX3_change_0 : decode cX3_change 0 = .ok (.iconst 0, 1) := by decide +kernel
theorem dX3_change_1 : decode cX3_change 1 = .ok (.istore 4, 2) := by decide +kernel
theorem dX3_change_3 : decode cX3_change 3 = .ok (.iload 4, 2) := by decide +kernel
theorem dX3_change_5 : decode cX3_change 5 = .ok (.aload_n 1, 1) := by decide +kernel
theorem dX3_change_6 : decode cX3_change 6 = .ok (.getfield 18, 3) := by decide +kernel
theorem dX3_change_9 : decode cX3_change 9 = .ok (.arraylength, 1) := by decide +kernel
theorem dX3_change_10 : decode cX3_change 10 = .ok (.if_icmp .ge 57, 3) := by decide +kernel
theorem dX3_change_13 : decode cX3_change 13 = .ok (.aload_n 1, 1) := by decide +kernel
theorem dX3_change_14 : decode cX3_change 14 = .ok (.iload 4, 2) := by decide +kernel
theorem dX3_change_16 : decode cX3_change 16 = .ok (.invokevirtual 21, 3) := by decide +kernel
theorem dX3_change_19 : decode cX3_change 19 = .ok (.istore 5, 2) := by decide +kernel
theorem dX3_change_21 : decode cX3_change 21 = .ok (.iload_n 2, 1) := by decide +kernel
theorem dX3_change_22 : decode cX3_change 22 = .ok (.iload 4, 2) := by decide +kernel
theorem dX3_change_24 : decode cX3_change 24 = .ok (.iadd, 1) := by decide +kernel
theorem dX3_change_25 : decode cX3_change 25 = .ok (.istore 6, 2) := by decide +kernel
theorem dX3_change_27 : decode cX3_change 27 = .ok (.iload 5, 2) := by decide +kernel
theorem dX3_change_29 : decode cX3_change 29 = .ok (.ifCond .eq 32, 3) := by decide +kernel
theorem dX3_change_32 : decode cX3_change 32 = .ok (.aload_n 0, 1) := by decide +kernel
theorem dX3_change_33 : decode cX3_change 33 = .ok (.iload 6, 2) := by decide +kernel
theorem dX3_change_35 : decode cX3_change 35 = .ok (.invokevirtual 25, 3) := by decide +kernel
theorem dX3_change_38 : decode cX3_change 38 = .ok (.ifCond .eq 23, 3) := by decide +kernel
theorem dX3_change_41 : decode cX3_change 41 = .ok (.aload_n 0, 1) := by decide +kernel
theorem dX3_change_42 : decode cX3_change 42 = .ok (.getfield 9, 3) := by decide +kernel
theorem dX3_change_45 : decode cX3_change 45 = .ok (.iload 6, 2) := by decide +kernel
theorem dX3_change_47 : decode cX3_change 47 = .ok (.iload 5, 2) := by decide +kernel
theorem dX3_change_49 : decode cX3_change 49 = .ok (.iastore, 1) := by decide +kernel
theorem dX3_change_50 : decode cX3_change 50 = .ok (.aload_n 0, 1) := by decide +kernel
theorem dX3_change_51 : decode cX3_change 51 = .ok (.getfield 15, 3) := by decide +kernel
theorem dX3_change_54 : decode cX3_change 54 = .ok (.iload 6, 2) := by decide +kernel
theorem dX3_change_56 : decode cX3_change 56 = .ok (.dup2, 1) := by decide +kernel
theorem dX3_change_57 : decode cX3_change 57 = .ok (.iaload, 1) := by decide +kernel
theorem dX3_change_58 : decode cX3_change 58 = .ok (.iload_n 3, 1) := by decide +kernel
theorem dX3_change_59 : decode cX3_change 59 = .ok (.iadd, 1) := by decide +kernel
theorem dX3_change_60 : decode cX3_change 60 = .ok (.iastore, 1) := by decide +kernel
theorem dX3_change_61 : decode cX3_change 61 = .ok (.iinc 4 1, 3) := by decide +kernel
theorem dX3_change_64 : decode cX3_change 64 = .ok (.goto (-61), 3) := by decide +kernel
theorem dX3_change_67 : decode cX3_change 67 = .ok (.return_, 1) := by decide +kernel
theorem dX3_pairsWorth_0 : decode cX3_pairsWorth 0 = .ok (.iconst 0, 1) := by decide +kernel
theorem dX3_pairsWorth_1 : decode cX3_pairsWorth 1 = .ok (.istore_n 1, 1) := by decide +kernel
theorem dX3_pairsWorth_2 : decode cX3_pairsWorth 2 = .ok (.iconst 0, 1) := by decide +kernel
theorem dX3_pairsWorth_3 : decode cX3_pairsWorth 3 = .ok (.istore_n 2, 1) := by decide +kernel
theorem dX3_pairsWorth_4 : decode cX3_pairsWorth 4 = .ok (.iload_n 2, 1) := by decide +kernel
theorem dX3_pairsWorth_5 : decode cX3_pairsWorth 5 = .ok (.aload_n 0, 1) := by decide +kernel
theorem dX3_pairsWorth_6 : decode cX3_pairsWorth 6 = .ok (.getfield 15, 3) := by decide +kernel
theorem dX3_pairsWorth_9 : decode cX3_pairsWorth 9 = .ok (.arraylength, 1) := by decide +kernel
theorem dX3_pairsWorth_10 : decode cX3_pairsWorth 10 = .ok (.if_icmp .ge 27, 3) := by decide +kernel
theorem dX3_pairsWorth_13 : decode cX3_pairsWorth 13 = .ok (.iload_n 1, 1) := by decide +kernel
theorem dX3_pairsWorth_14 : decode cX3_pairsWorth 14 = .ok (.aload_n 0, 1) := by decide +kernel
theorem dX3_pairsWorth_15 : decode cX3_pairsWorth 15 = .ok (.getfield 15, 3) := by decide +kernel
theorem dX3_pairsWorth_18 : decode cX3_pairsWorth 18 = .ok (.iload_n 2, 1) := by decide +kernel
theorem dX3_pairsWorth_19 : decode cX3_pairsWorth 19 = .ok (.iaload, 1) := by decide +kernel
theorem dX3_pairsWorth_20 : decode cX3_pairsWorth 20 = .ok (.aload_n 0, 1) := by decide +kernel
theorem dX3_pairsWorth_21 : decode cX3_pairsWorth 21 = .ok (.getfield 15, 3) := by decide +kernel
theorem dX3_pairsWorth_24 : decode cX3_pairsWorth 24 = .ok (.iload_n 2, 1) := by decide +kernel
theorem dX3_pairsWorth_25 : decode cX3_pairsWorth 25 = .ok (.iaload, 1) := by decide +kernel
theorem dX3_pairsWorth_26 : decode cX3_pairsWorth 26 = .ok (.iconst 1, 1) := by decide +kernel
theorem dX3_pairsWorth_27 : decode cX3_pairsWorth 27 = .ok (.isub, 1) := by decide +kernel
theorem dX3_pairsWorth_28 : decode cX3_pairsWorth 28 = .ok (.imul, 1) := by decide +kernel
theorem dX3_pairsWorth_29 : decode cX3_pairsWorth 29 = .ok (.iadd, 1) := by decide +kernel
theorem dX3_pairsWorth_30 : decode cX3_pairsWorth 30 = .ok (.istore_n 1, 1) := by decide +kernel
theorem dX3_pairsWorth_31 : decode cX3_pairsWorth 31 = .ok (.iinc 2 1, 3) := by decide +kernel
theorem dX3_pairsWorth_34 : decode cX3_pairsWorth 34 = .ok (.goto (-30), 3) := by decide +kernel
theorem dX3_pairsWorth_37 : decode cX3_pairsWorth 37 = .ok (.iload_n 1, 1) := by decide +kernel
theorem dX3_pairsWorth_38 : decode cX3_pairsWorth 38 = .ok (.ireturn, 1) := by decide +kernel
theorem dX4_init_0 : decode cX4_init 0 = .ok (.aload_n 0, 1) := by decide +kernel
theorem dX4_init_1 : decode cX4_init 1 = .ok (.invokespecial 3, 3) := by decide +kernel
theorem dX4_init_4 : decode cX4_init 4 = .ok (.aload_n 0, 1) := by decide +kernel
theorem dX4_init_5 : decode cX4_init 5 = .ok (.sipush 231, 3) := by decide +kernel
theorem dX4_init_8 : decode cX4_init 8 = .ok (.newarray .int, 2) := by decide +kernel
theorem dX4_init_10 : decode cX4_init 10 = .ok (.putfield 11, 3) := by decide +kernel
theorem dX4_init_13 : decode cX4_init 13 = .ok (.aload_n 0, 1) := by decide +kernel
theorem dX4_init_14 : decode cX4_init 14 = .ok (.bipush 11, 2) := by decide +kernel
theorem dX4_init_16 : decode cX4_init 16 = .ok (.newarray .int, 2) := by decide +kernel
theorem dX4_init_18 : decode cX4_init 18 = .ok (.putfield 15, 3) := by decide +kernel
theorem dX4_init_21 : decode cX4_init 21 = .ok (.aload_n 0, 1) := by decide +kernel
theorem dX4_init_22 : decode cX4_init 22 = .ok (.bipush 21, 2) := by decide +kernel
theorem dX4_init_24 : decode cX4_init 24 = .ok (.newarray .int, 2) := by decide +kernel
theorem dX4_init_26 : decode cX4_init 26 = .ok (.putfield 18, 3) := by decide +kernel
theorem dX4_init_29 : decode cX4_init 29 = .ok (.return_, 1) := by decide +kernel
theorem dX4_compare_0 : decode cX4_compare 0 = .ok (.iconst 0, 1) := by decide +kernel
theorem dX4_compare_1 : decode cX4_compare 1 = .ok (.istore_n 3, 1) := by decide +kernel
theorem dX4_compare_2 : decode cX4_compare 2 = .ok (.iload_n 3, 1) := by decide +kernel
theorem dX4_compare_3 : decode cX4_compare 3 = .ok (.bipush 11, 2) := by decide +kernel
theorem dX4_compare_5 : decode cX4_compare 5 = .ok (.if_icmp .ge 73, 3) := by decide +kernel
theorem dX4_compare_8 : decode cX4_compare 8 = .ok (.iload_n 3, 1) := by decide +kernel
theorem dX4_compare_9 : decode cX4_compare 9 = .ok (.iconst 5, 1) := by decide +kernel
theorem dX4_compare_10 : decode cX4_compare 10 = .ok (.isub, 1) := by decide +kernel
theorem dX4_compare_11 : decode cX4_compare 11 = .ok (.istore 4, 2) := by decide +kernel
theorem dX4_compare_13 : decode cX4_compare 13 = .ok (.aload_n 0, 1) := by decide +kernel
theorem dX4_compare_14 : decode cX4_compare 14 = .ok (.getfield 15, 3) := by decide +kernel
theorem dX4_compare_17 : decode cX4_compare 17 = .ok (.iload_n 3, 1) := by decide +kernel
theorem dX4_compare_18 : decode cX4_compare 18 = .ok (.aload_n 1, 1) := by decide +kernel
theorem dX4_compare_19 : decode cX4_compare 19 = .ok (.getfield 21, 3) := by decide +kernel
theorem dX4_compare_22 : decode cX4_compare 22 = .ok (.aload_n 2, 1) := by decide +kernel
theorem dX4_compare_23 : decode cX4_compare 23 = .ok (.getfield 21, 3) := by decide +kernel
theorem dX4_compare_26 : decode cX4_compare 26 = .ok (.iload 4, 2) := by decide +kernel
theorem dX4_compare_28 : decode cX4_compare 28 = .ok (.invokevirtual 27, 3) := by decide +kernel
theorem dX4_compare_31 : decode cX4_compare 31 = .ok (.iastore, 1) := by decide +kernel
theorem dX4_compare_32 : decode cX4_compare 32 = .ok (.iconst 0, 1) := by decide +kernel
theorem dX4_compare_33 : decode cX4_compare 33 = .ok (.istore 5, 2) := by decide +kernel
theorem dX4_compare_35 : decode cX4_compare 35 = .ok (.iload 5, 2) := by decide +kernel
theorem dX4_compare_37 : decode cX4_compare 37 = .ok (.bipush 21, 2) := by decide +kernel
theorem dX4_compare_39 : decode cX4_compare 39 = .ok (.if_icmp .ge 33, 3) := by decide +kernel
theorem dX4_compare_42 : decode cX4_compare 42 = .ok (.aload_n 0, 1) := by decide +kernel
theorem dX4_compare_43 : decode cX4_compare 43 = .ok (.getfield 11, 3) := by decide +kernel
theorem dX4_compare_46 : decode cX4_compare 46 = .ok (.iload_n 3, 1) := by decide +kernel
theorem dX4_compare_47 : decode cX4_compare 47 = .ok (.bipush 21, 2) := by decide +kernel
theorem dX4_compare_49 : decode cX4_compare 49 = .ok (.imul, 1) := by decide +kernel
theorem dX4_compare_50 : decode cX4_compare 50 = .ok (.iload 5, 2) := by decide +kernel
theorem dX4_compare_52 : decode cX4_compare 52 = .ok (.iadd, 1) := by decide +kernel
theorem dX4_compare_53 : decode cX4_compare 53 = .ok (.aload_n 1, 1) := by decide +kernel
theorem dX4_compare_54 : decode cX4_compare 54 = .ok (.aload_n 2, 1) := by decide +kernel
theorem dX4_compare_55 : decode cX4_compare 55 = .ok (.iload 4, 2) := by decide +kernel
theorem dX4_compare_57 : decode cX4_compare 57 = .ok (.iload 5, 2) := by decide +kernel
theorem dX4_compare_59 : decode cX4_compare 59 = .ok (.bipush 10, 2) := by decide +kernel
theorem dX4_compare_61 : decode cX4_compare 61 = .ok (.isub, 1) := by decide +kernel
theorem dX4_compare_62 : decode cX4_compare 62 = .ok (.invokestatic 33, 3) := by decide +kernel
theorem dX4_compare_65 : decode cX4_compare 65 = .ok (.iastore, 1) := by decide +kernel
theorem dX4_compare_66 : decode cX4_compare 66 = .ok (.iinc 5 1, 3) := by decide +kernel
theorem dX4_compare_69 : decode cX4_compare 69 = .ok (.goto (-34), 3) := by decide +kernel
theorem dX4_compare_72 : decode cX4_compare 72 = .ok (.iinc 3 1, 3) := by decide +kernel
theorem dX4_compare_75 : decode cX4_compare 75 = .ok (.goto (-73), 3) := by decide +kernel
theorem dX4_compare_78 : decode cX4_compare 78 = .ok (.iconst 0, 1) := by decide +kernel
theorem dX4_compare_79 : decode cX4_compare 79 = .ok (.istore_n 3, 1) := by decide +kernel
theorem dX4_compare_80 : decode cX4_compare 80 = .ok (.iload_n 3, 1) := by decide +kernel
theorem dX4_compare_81 : decode cX4_compare 81 = .ok (.bipush 21, 2) := by decide +kernel
theorem dX4_compare_83 : decode cX4_compare 83 = .ok (.if_icmp .ge 30, 3) := by decide +kernel
theorem dX4_compare_86 : decode cX4_compare 86 = .ok (.aload_n 0, 1) := by decide +kernel
theorem dX4_compare_87 : decode cX4_compare 87 = .ok (.getfield 18, 3) := by decide +kernel
theorem dX4_compare_90 : decode cX4_compare 90 = .ok (.iload_n 3, 1) := by decide +kernel
theorem dX4_compare_91 : decode cX4_compare 91 = .ok (.aload_n 1, 1) := by decide +kernel
theorem dX4_compare_92 : decode cX4_compare 92 = .ok (.getfield 37, 3) := by decide +kernel
theorem dX4_compare_95 : decode cX4_compare 95 = .ok (.aload_n 2, 1) := by decide +kernel
theorem dX4_compare_96 : decode cX4_compare 96 = .ok (.getfield 37, 3) := by decide +kernel
theorem dX4_compare_99 : decode cX4_compare 99 = .ok (.iload_n 3, 1) := by decide +kernel
theorem dX4_compare_100 : decode cX4_compare 100 = .ok (.bipush 10, 2) := by decide +kernel
theorem dX4_compare_102 : decode cX4_compare 102 = .ok (.isub, 1) := by decide +kernel
theorem dX4_compare_103 : decode cX4_compare 103 = .ok (.invokevirtual 27, 3) := by decide +kernel
theorem dX4_compare_106 : decode cX4_compare 106 = .ok (.iastore, 1) := by decide +kernel
theorem dX4_compare_107 : decode cX4_compare 107 = .ok (.iinc 3 1, 3) := by decide +kernel
theorem dX4_compare_110 : decode cX4_compare 110 = .ok (.goto (-30), 3) := by decide +kernel
theorem dX4_compare_113 : decode cX4_compare 113 = .ok (.return_, 1) := by decide +kernel
theorem dX4_countSides_0 : decode cX4_countSides 0 = .ok (.iconst 0, 1) := by decide +kernel
theorem dX4_countSides_1 : decode cX4_countSides 1 = .ok (.istore 4, 2) := by decide +kernel
theorem dX4_countSides_3 : decode cX4_countSides 3 = .ok (.iconst 0, 1) := by decide +kernel
theorem dX4_countSides_4 : decode cX4_countSides 4 = .ok (.istore 5, 2) := by decide +kernel
theorem dX4_countSides_6 : decode cX4_countSides 6 = .ok (.iload 5, 2) := by decide +kernel
theorem dX4_countSides_8 : decode cX4_countSides 8 = .ok (.aload_n 1, 1) := by decide +kernel
theorem dX4_countSides_9 : decode cX4_countSides 9 = .ok (.getfield 40, 3) := by decide +kernel
theorem dX4_countSides_12 : decode cX4_countSides 12 = .ok (.if_icmp .ge 104, 3) := by decide +kernel
theorem dX4_countSides_15 : decode cX4_countSides 15 = .ok (.aload_n 1, 1) := by decide +kernel
theorem dX4_countSides_16 : decode cX4_countSides 16 = .ok (.getfield 44, 3) := by decide +kernel
theorem dX4_countSides_19 : decode cX4_countSides 19 = .ok (.iload 5, 2) := by decide +kernel
theorem dX4_countSides_21 : decode cX4_countSides 21 = .ok (.iaload, 1) := by decide +kernel
theorem dX4_countSides_22 : decode cX4_countSides 22 = .ok (.iload_n 2, 1) := by decide +kernel
theorem dX4_countSides_23 : decode cX4_countSides 23 = .ok (.iadd, 1) := by decide +kernel
theorem dX4_countSides_24 : decode cX4_countSides 24 = .ok (.istore 6, 2) := by decide +kernel
theorem dX4_countSides_26 : decode cX4_countSides 26 = .ok (.aload_n 1, 1) := by decide +kernel
theorem dX4_countSides_27 : decode cX4_countSides 27 = .ok (.getfield 47, 3) := by decide +kernel
theorem dX4_countSides_30 : decode cX4_countSides 30 = .ok (.iload 5, 2) := by decide +kernel
theorem dX4_countSides_32 : decode cX4_countSides 32 = .ok (.iaload, 1) := by decide +kernel
theorem dX4_countSides_33 : decode cX4_countSides 33 = .ok (.iload_n 3, 1) := by decide +kernel
theorem dX4_countSides_34 : decode cX4_countSides 34 = .ok (.iadd, 1) := by decide +kernel
theorem dX4_countSides_35 : decode cX4_countSides 35 = .ok (.istore 7, 2) := by decide +kernel
theorem dX4_countSides_37 : decode cX4_countSides 37 = .ok (.aload_n 0, 1) := by decide +kernel
theorem dX4_countSides_38 : decode cX4_countSides 38 = .ok (.iload 6, 2) := by decide +kernel
theorem dX4_countSides_40 : decode cX4_countSides 40 = .ok (.iload 7, 2) := by decide +kernel
theorem dX4_countSides_42 : decode cX4_countSides 42 = .ok (.invokevirtual 50, 3) := by decide +kernel
theorem dX4_countSides_45 : decode cX4_countSides 45 = .ok (.ifCond .eq 5, 3) := by decide +kernel
theorem dX4_countSides_48 : decode cX4_countSides 48 = .ok (.iconst (-1), 1) := by decide +kernel
theorem dX4_countSides_49 : decode cX4_countSides 49 = .ok (.ireturn, 1) := by decide +kernel
theorem dX4_countSides_50 : decode cX4_countSides 50 = .ok (.iload 4, 2) := by decide +kernel
theorem dX4_countSides_52 : decode cX4_countSides 52 = .ok (.aload_n 0, 1) := by decide +kernel
theorem dX4_countSides_53 : decode cX4_countSides 53 = .ok (.iload 6, 2) := by decide +kernel
theorem dX4_countSides_55 : decode cX4_countSides 55 = .ok (.iconst 1, 1) := by decide +kernel
theorem dX4_countSides_56 : decode cX4_countSides 56 = .ok (.isub, 1) := by decide +kernel
theorem dX4_countSides_57 : decode cX4_countSides 57 = .ok (.iload 7, 2) := by decide +kernel
theorem dX4_countSides_59 : decode cX4_countSides 59 = .ok (.invokevirtual 50, 3) := by decide +kernel
theorem dX4_countSides_62 : decode cX4_countSides 62 = .ok (.invokestatic 54, 3) := by decide +kernel
theorem dX4_countSides_65 : decode cX4_countSides 65 = .ok (.aload_n 0, 1) := by decide +kernel
theorem dX4_countSides_66 : decode cX4_countSides 66 = .ok (.iload 6, 2) := by decide +kernel
theorem dX4_countSides_68 : decode cX4_countSides 68 = .ok (.iconst 1, 1) := by decide +kernel
theorem dX4_countSides_69 : decode cX4_countSides 69 = .ok (.iadd, 1) := by decide +kernel
theorem dX4_countSides_70 : decode cX4_countSides 70 = .ok (.iload 7, 2) := by decide +kernel
theorem dX4_countSides_72 : decode cX4_countSides 72 = .ok (.invokevirtual 50, 3) := by decide +kernel
theorem dX4_countSides_75 : decode cX4_countSides 75 = .ok (.invokestatic 54, 3) := by decide +kernel
theorem dX4_countSides_78 : decode cX4_countSides 78 = .ok (.iadd, 1) := by decide +kernel
theorem dX4_countSides_79 : decode cX4_countSides 79 = .ok (.aload_n 0, 1) := by decide +kernel
theorem dX4_countSides_80 : decode cX4_countSides 80 = .ok (.iload 6, 2) := by decide +kernel
theorem dX4_countSides_82 : decode cX4_countSides 82 = .ok (.iload 7, 2) := by decide +kernel
theorem dX4_countSides_84 : decode cX4_countSides 84 = .ok (.iconst 1, 1) := by decide +kernel
theorem dX4_countSides_85 : decode cX4_countSides 85 = .ok (.isub, 1) := by decide +kernel
theorem dX4_countSides_86 : decode cX4_countSides 86 = .ok (.invokevirtual 50, 3) := by decide +kernel
theorem dX4_countSides_89 : decode cX4_countSides 89 = .ok (.invokestatic 54, 3) := by decide +kernel
theorem dX4_countSides_92 : decode cX4_countSides 92 = .ok (.iadd, 1) := by decide +kernel
theorem dX4_countSides_93 : decode cX4_countSides 93 = .ok (.aload_n 0, 1) := by decide +kernel
theorem dX4_countSides_94 : decode cX4_countSides 94 = .ok (.iload 6, 2) := by decide +kernel
theorem dX4_countSides_96 : decode cX4_countSides 96 = .ok (.iload 7, 2) := by decide +kernel
theorem dX4_countSides_98 : decode cX4_countSides 98 = .ok (.iconst 1, 1) := by decide +kernel
theorem dX4_countSides_99 : decode cX4_countSides 99 = .ok (.iadd, 1) := by decide +kernel
theorem dX4_countSides_100 : decode cX4_countSides 100 = .ok (.invokevirtual 50, 3) := by decide +kernel
theorem dX4_countSides_103 : decode cX4_countSides 103 = .ok (.invokestatic 54, 3) := by decide +kernel
theorem dX4_countSides_106 : decode cX4_countSides 106 = .ok (.iadd, 1) := by decide +kernel
theorem dX4_countSides_107 : decode cX4_countSides 107 = .ok (.iadd, 1) := by decide +kernel
theorem dX4_countSides_108 : decode cX4_countSides 108 = .ok (.istore 4, 2) := by decide +kernel
theorem dX4_countSides_110 : decode cX4_countSides 110 = .ok (.iinc 5 1, 3) := by decide +kernel
theorem dX4_countSides_113 : decode cX4_countSides 113 = .ok (.goto (-107), 3) := by decide +kernel
theorem dX4_countSides_116 : decode cX4_countSides 116 = .ok (.iload 4, 2) := by decide +kernel
theorem dX4_countSides_118 : decode cX4_countSides 118 = .ok (.ireturn, 1) := by decide +kernel
theorem dX4_one_0 : decode cX4_one 0 = .ok (.iload_n 0, 1) := by decide +kernel
theorem dX4_one_1 : decode cX4_one 1 = .ok (.ifCond .eq 7, 3) := by decide +kernel
theorem dX4_one_4 : decode cX4_one 4 = .ok (.iconst 1, 1) := by decide +kernel
theorem dX4_one_5 : decode cX4_one 5 = .ok (.goto 4, 3) := by decide +kernel
theorem dX4_one_8 : decode cX4_one 8 = .ok (.iconst 0, 1) := by decide +kernel
theorem dX4_one_9 : decode cX4_one 9 = .ok (.ireturn, 1) := by decide +kernel
theorem dX4_sidesAt_0 : decode cX4_sidesAt 0 = .ok (.aload_n 0, 1) := by decide +kernel
theorem dX4_sidesAt_1 : decode cX4_sidesAt 1 = .ok (.iload_n 1, 1) := by decide +kernel
theorem dX4_sidesAt_2 : decode cX4_sidesAt 2 = .ok (.invokevirtual 58, 3) := by decide +kernel
theorem dX4_sidesAt_5 : decode cX4_sidesAt 5 = .ok (.ifCond .eq 30, 3) := by decide +kernel
theorem dX4_sidesAt_8 : decode cX4_sidesAt 8 = .ok (.aload_n 0, 1) := by decide +kernel
theorem dX4_sidesAt_9 : decode cX4_sidesAt 9 = .ok (.iload_n 2, 1) := by decide +kernel
theorem dX4_sidesAt_10 : decode cX4_sidesAt 10 = .ok (.invokevirtual 62, 3) := by decide +kernel
theorem dX4_sidesAt_13 : decode cX4_sidesAt 13 = .ok (.ifCond .eq 22, 3) := by decide +kernel
theorem dX4_sidesAt_16 : decode cX4_sidesAt 16 = .ok (.aload_n 0, 1) := by decide +kernel
theorem dX4_sidesAt_17 : decode cX4_sidesAt 17 = .ok (.getfield 11, 3) := by decide +kernel
theorem dX4_sidesAt_20 : decode cX4_sidesAt 20 = .ok (.iload_n 1, 1) := by decide +kernel
theorem dX4_sidesAt_21 : decode cX4_sidesAt 21 = .ok (.iconst 5, 1) := by decide +kernel
theorem dX4_sidesAt_22 : decode cX4_sidesAt 22 = .ok (.iadd, 1) := by decide +kernel
theorem dX4_sidesAt_23 : decode cX4_sidesAt 23 = .ok (.bipush 21, 2) := by decide +kernel
theorem dX4_sidesAt_25 : decode cX4_sidesAt 25 = .ok (.imul, 1) := by decide +kernel
theorem dX4_sidesAt_26 : decode cX4_sidesAt 26 = .ok (.iload_n 2, 1) := by decide +kernel
theorem dX4_sidesAt_27 : decode cX4_sidesAt 27 = .ok (.iadd, 1) := by decide +kernel
theorem dX4_sidesAt_28 : decode cX4_sidesAt 28 = .ok (.bipush 10, 2) := by decide +kernel
theorem dX4_sidesAt_30 : decode cX4_sidesAt 30 = .ok (.iadd, 1) := by decide +kernel
theorem dX4_sidesAt_31 : decode cX4_sidesAt 31 = .ok (.iaload, 1) := by decide +kernel
theorem dX4_sidesAt_32 : decode cX4_sidesAt 32 = .ok (.goto 4, 3) := by decide +kernel
theorem dX4_sidesAt_35 : decode cX4_sidesAt 35 = .ok (.iconst 0, 1) := by decide +kernel
theorem dX4_sidesAt_36 : decode cX4_sidesAt 36 = .ok (.ireturn, 1) := by decide +kernel
theorem dX4_acrossAt_0 : decode cX4_acrossAt 0 = .ok (.aload_n 0, 1) := by decide +kernel
theorem dX4_acrossAt_1 : decode cX4_acrossAt 1 = .ok (.iload_n 1, 1) := by decide +kernel
theorem dX4_acrossAt_2 : decode cX4_acrossAt 2 = .ok (.invokevirtual 58, 3) := by decide +kernel
theorem dX4_acrossAt_5 : decode cX4_acrossAt 5 = .ok (.ifCond .eq 14, 3) := by decide +kernel
theorem dX4_acrossAt_8 : decode cX4_acrossAt 8 = .ok (.aload_n 0, 1) := by decide +kernel
theorem dX4_acrossAt_9 : decode cX4_acrossAt 9 = .ok (.getfield 15, 3) := by decide +kernel
theorem dX4_acrossAt_12 : decode cX4_acrossAt 12 = .ok (.iload_n 1, 1) := by decide +kernel
theorem dX4_acrossAt_13 : decode cX4_acrossAt 13 = .ok (.iconst 5, 1) := by decide +kernel
theorem dX4_acrossAt_14 : decode cX4_acrossAt 14 = .ok (.iadd, 1) := by decide +kernel
theorem dX4_acrossAt_15 : decode cX4_acrossAt 15 = .ok (.iaload, 1) := by decide +kernel
theorem dX4_acrossAt_16 : decode cX4_acrossAt 16 = .ok (.goto 4, 3) := by decide +kernel
theorem dX4_acrossAt_19 : decode cX4_acrossAt 19 = .ok (.iconst 0, 1) := by decide +kernel
theorem dX4_acrossAt_20 : decode cX4_acrossAt 20 = .ok (.ireturn, 1) := by decide +kernel
theorem dX4_downAt_0 : decode cX4_downAt 0 = .ok (.aload_n 0, 1) := by decide +kernel
theorem dX4_downAt_1 : decode cX4_downAt 1 = .ok (.iload_n 1, 1) := by decide +kernel
theorem dX4_downAt_2 : decode cX4_downAt 2 = .ok (.invokevirtual 62, 3) := by decide +kernel
theorem dX4_downAt_5 : decode cX4_downAt 5 = .ok (.ifCond .eq 15, 3) := by decide +kernel
theorem dX4_downAt_8 : decode cX4_downAt 8 = .ok (.aload_n 0, 1) := by decide +kernel
theorem dX4_downAt_9 : decode cX4_downAt 9 = .ok (.getfield 18, 3) := by decide +kernel
theorem dX4_downAt_12 : decode cX4_downAt 12 = .ok (.iload_n 1, 1) := by decide +kernel
theorem dX4_downAt_13 : decode cX4_downAt 13 = .ok (.bipush 10, 2) := by decide +kernel
theorem dX4_downAt_15 : decode cX4_downAt 15 = .ok (.iadd, 1) := by decide +kernel
theorem dX4_downAt_16 : decode cX4_downAt 16 = .ok (.iaload, 1) := by decide +kernel
theorem dX4_downAt_17 : decode cX4_downAt 17 = .ok (.goto 4, 3) := by decide +kernel
theorem dX4_downAt_20 : decode cX4_downAt 20 = .ok (.iconst 0, 1) := by decide +kernel
theorem dX4_downAt_21 : decode cX4_downAt 21 = .ok (.ireturn, 1) := by decide +kernel
theorem dX4_rowsMeet_0 : decode cX4_rowsMeet 0 = .ok (.iload_n 1, 1) := by decide +kernel
theorem dX4_rowsMeet_1 : decode cX4_rowsMeet 1 = .ok (.bipush (-5), 2) := by decide +kernel
theorem dX4_rowsMeet_3 : decode cX4_rowsMeet 3 = .ok (.if_icmp .lt 12, 3) := by decide +kernel
theorem dX4_rowsMeet_6 : decode cX4_rowsMeet 6 = .ok (.iload_n 1, 1) := by decide +kernel
theorem dX4_rowsMeet_7 : decode cX4_rowsMeet 7 = .ok (.iconst 5, 1) := by decide +kernel
theorem dX4_rowsMeet_8 : decode cX4_rowsMeet 8 = .ok (.if_icmp .gt 7, 3) := by decide +kernel
theorem dX4_rowsMeet_11 : decode cX4_rowsMeet 11 = .ok (.iconst 1, 1) := by decide +kernel
theorem dX4_rowsMeet_12 : decode cX4_rowsMeet 12 = .ok (.goto 4, 3) := by decide +kernel
theorem dX4_rowsMeet_15 : decode cX4_rowsMeet 15 = .ok (.iconst 0, 1) := by decide +kernel
theorem dX4_rowsMeet_16 : decode cX4_rowsMeet 16 = .ok (.ireturn, 1) := by decide +kernel
theorem dX4_columnsMeet_0 : decode cX4_columnsMeet 0 = .ok (.iload_n 1, 1) := by decide +kernel
theorem dX4_columnsMeet_1 : decode cX4_columnsMeet 1 = .ok (.bipush (-10), 2) := by decide +kernel
theorem dX4_columnsMeet_3 : decode cX4_columnsMeet 3 = .ok (.if_icmp .lt 13, 3) := by decide +kernel
theorem dX4_columnsMeet_6 : decode cX4_columnsMeet 6 = .ok (.iload_n 1, 1) := by decide +kernel
theorem dX4_columnsMeet_7 : decode cX4_columnsMeet 7 = .ok (.bipush 10, 2) := by decide +kernel
theorem dX4_columnsMeet_9 : decode cX4_columnsMeet 9 = .ok (.if_icmp .gt 7, 3) := by decide +kernel
theorem dX4_columnsMeet_12 : decode cX4_columnsMeet 12 = .ok (.iconst 1, 1) := by decide +kernel
theorem dX4_columnsMeet_13 : decode cX4_columnsMeet 13 = .ok (.goto 4, 3) := by decide +kernel
theorem dX4_columnsMeet_16 : decode cX4_columnsMeet 16 = .ok (.iconst 0, 1) := by decide +kernel
theorem dX4_columnsMeet_17 : decode cX4_columnsMeet 17 = .ok (.ireturn, 1) := by decide +kernel
theorem dX5_init_0 : decode cX5_init 0 = .ok (.aload_n 0, 1) := by decide +kernel
theorem dX5_init_1 : decode cX5_init 1 = .ok (.invokespecial 3, 3) := by decide +kernel
theorem dX5_init_4 : decode cX5_init 4 = .ok (.aload_n 0, 1) := by decide +kernel
theorem dX5_init_5 : decode cX5_init 5 = .ok (.sipush 512, 3) := by decide +kernel
theorem dX5_init_8 : decode cX5_init 8 = .ok (.newarray .int, 2) := by decide +kernel
theorem dX5_init_10 : decode cX5_init 10 = .ok (.putfield 9, 3) := by decide +kernel
theorem dX5_init_13 : decode cX5_init 13 = .ok (.aload_n 0, 1) := by decide +kernel
theorem dX5_init_14 : decode cX5_init 14 = .ok (.sipush 512, 3) := by decide +kernel
theorem dX5_init_17 : decode cX5_init 17 = .ok (.newarray .int, 2) := by decide +kernel
theorem dX5_init_19 : decode cX5_init 19 = .ok (.putfield 15, 3) := by decide +kernel
theorem dX5_init_22 : decode cX5_init 22 = .ok (.aload_n 0, 1) := by decide +kernel
theorem dX5_init_23 : decode cX5_init 23 = .ok (.sipush 512, 3) := by decide +kernel
theorem dX5_init_26 : decode cX5_init 26 = .ok (.newarray .int, 2) := by decide +kernel
theorem dX5_init_28 : decode cX5_init 28 = .ok (.putfield 18, 3) := by decide +kernel
theorem dX5_init_31 : decode cX5_init 31 = .ok (.aload_n 0, 1) := by decide +kernel
theorem dX5_init_32 : decode cX5_init 32 = .ok (.sipush 512, 3) := by decide +kernel
theorem dX5_init_35 : decode cX5_init 35 = .ok (.newarray .boolean, 2) := by decide +kernel
theorem dX5_init_37 : decode cX5_init 37 = .ok (.putfield 21, 3) := by decide +kernel
theorem dX5_init_40 : decode cX5_init 40 = .ok (.return_, 1) := by decide +kernel
theorem dX5_collect_0 : decode cX5_collect 0 = .ok (.aload_n 0, 1) := by decide +kernel
theorem dX5_collect_1 : decode cX5_collect 1 = .ok (.iconst 0, 1) := by decide +kernel
theorem dX5_collect_2 : decode cX5_collect 2 = .ok (.putfield 25, 3) := by decide +kernel
theorem dX5_collect_5 : decode cX5_collect 5 = .ok (.aload_n 3, 1) := by decide +kernel
theorem dX5_collect_6 : decode cX5_collect 6 = .ok (.aload 4, 2) := by decide +kernel
theorem dX5_collect_8 : decode cX5_collect 8 = .ok (.invokevirtual 29, 3) := by decide +kernel
theorem dX5_collect_11 : decode cX5_collect 11 = .ok (.ifCond .ne 4, 3) := by decide +kernel
theorem dX5_collect_14 : decode cX5_collect 14 = .ok (.return_, 1) := by decide +kernel
theorem dX5_collect_15 : decode cX5_collect 15 = .ok (.bipush (-4), 2) := by decide +kernel
theorem dX5_collect_17 : decode cX5_collect 17 = .ok (.istore 5, 2) := by decide +kernel
theorem dX5_collect_19 : decode cX5_collect 19 = .ok (.iload 5, 2) := by decide +kernel
theorem dX5_collect_21 : decode cX5_collect 21 = .ok (.bipush 16, 2) := by decide +kernel
theorem dX5_collect_23 : decode cX5_collect 23 = .ok (.if_icmp .ge 118, 3) := by decide +kernel
theorem dX5_collect_26 : decode cX5_collect 26 = .ok (.bipush (-9), 2) := by decide +kernel
theorem dX5_collect_28 : decode cX5_collect 28 = .ok (.istore 6, 2) := by decide +kernel
theorem dX5_collect_30 : decode cX5_collect 30 = .ok (.iload 6, 2) := by decide +kernel
theorem dX5_collect_32 : decode cX5_collect 32 = .ok (.bipush 32, 2) := by decide +kernel
theorem dX5_collect_34 : decode cX5_collect 34 = .ok (.if_icmp .ge 101, 3) := by decide +kernel
theorem dX5_collect_37 : decode cX5_collect 37 = .ok (.aload_n 3, 1) := by decide +kernel
theorem dX5_collect_38 : decode cX5_collect 38 = .ok (.aload_n 1, 1) := by decide +kernel
theorem dX5_collect_39 : decode cX5_collect 39 = .ok (.iload 5, 2) := by decide +kernel
theorem dX5_collect_41 : decode cX5_collect 41 = .ok (.iload 6, 2) := by decide +kernel
theorem dX5_collect_43 : decode cX5_collect 43 = .ok (.invokevirtual 35, 3) := by decide +kernel
theorem dX5_collect_46 : decode cX5_collect 46 = .ok (.ifCond .ne 6, 3) := by decide +kernel
theorem dX5_collect_49 : decode cX5_collect 49 = .ok (.goto 80, 3) := by decide +kernel
theorem dX5_collect_52 : decode cX5_collect 52 = .ok (.aload_n 3, 1) := by decide +kernel
theorem dX5_collect_53 : decode cX5_collect 53 = .ok (.aload_n 1, 1) := by decide +kernel
theorem dX5_collect_54 : decode cX5_collect 54 = .ok (.iload 5, 2) := by decide +kernel
theorem dX5_collect_56 : decode cX5_collect 56 = .ok (.iload 6, 2) := by decide +kernel
theorem dX5_collect_58 : decode cX5_collect 58 = .ok (.invokevirtual 39, 3) := by decide +kernel
theorem dX5_collect_61 : decode cX5_collect 61 = .ok (.istore 7, 2) := by decide +kernel
theorem dX5_collect_63 : decode cX5_collect 63 = .ok (.aload_n 3, 1) := by decide +kernel
theorem dX5_collect_64 : decode cX5_collect 64 = .ok (.aload_n 1, 1) := by decide +kernel
theorem dX5_collect_65 : decode cX5_collect 65 = .ok (.iload 5, 2) := by decide +kernel
theorem dX5_collect_67 : decode cX5_collect 67 = .ok (.iload 6, 2) := by decide +kernel
theorem dX5_collect_69 : decode cX5_collect 69 = .ok (.invokevirtual 43, 3) := by decide +kernel
theorem dX5_collect_72 : decode cX5_collect 72 = .ok (.istore 8, 2) := by decide +kernel
theorem dX5_collect_74 : decode cX5_collect 74 = .ok (.iload 8, 2) := by decide +kernel
theorem dX5_collect_76 : decode cX5_collect 76 = .ok (.iconst (-1), 1) := by decide +kernel
theorem dX5_collect_77 : decode cX5_collect 77 = .ok (.if_icmp .eq 52, 3) := by decide +kernel
theorem dX5_collect_80 : decode cX5_collect 80 = .ok (.iload_n 2, 1) := by decide +kernel
theorem dX5_collect_81 : decode cX5_collect 81 = .ok (.ifCond .eq 11, 3) := by decide +kernel
theorem dX5_collect_84 : decode cX5_collect 84 = .ok (.iload 7, 2) := by decide +kernel
theorem dX5_collect_86 : decode cX5_collect 86 = .ok (.ifCond .ne 6, 3) := by decide +kernel
theorem dX5_collect_89 : decode cX5_collect 89 = .ok (.goto 40, 3) := by decide +kernel
theorem dX5_collect_92 : decode cX5_collect 92 = .ok (.aload_n 3, 1) := by decide +kernel
theorem dX5_collect_93 : decode cX5_collect 93 = .ok (.aload_n 1, 1) := by decide +kernel
theorem dX5_collect_94 : decode cX5_collect 94 = .ok (.iload 5, 2) := by decide +kernel
theorem dX5_collect_96 : decode cX5_collect 96 = .ok (.iload 6, 2) := by decide +kernel
theorem dX5_collect_98 : decode cX5_collect 98 = .ok (.aload 4, 2) := by decide +kernel
theorem dX5_collect_100 : decode cX5_collect 100 = .ok (.invokevirtual 46, 3) := by decide +kernel
theorem dX5_collect_103 : decode cX5_collect 103 = .ok (.ifCond .eq 26, 3) := by decide +kernel
theorem dX5_collect_106 : decode cX5_collect 106 = .ok (.aload_n 0, 1) := by decide +kernel
theorem dX5_collect_107 : decode cX5_collect 107 = .ok (.iload 5, 2) := by decide +kernel
theorem dX5_collect_109 : decode cX5_collect 109 = .ok (.iload 6, 2) := by decide +kernel
theorem dX5_collect_111 : decode cX5_collect 111 = .ok (.iload 8, 2) := by decide +kernel
theorem dX5_collect_113 : decode cX5_collect 113 = .ok (.iload 7, 2) := by decide +kernel
theorem dX5_collect_115 : decode cX5_collect 115 = .ok (.iadd, 1) := by decide +kernel
theorem dX5_collect_116 : decode cX5_collect 116 = .ok (.iload 7, 2) := by decide +kernel
theorem dX5_collect_118 : decode cX5_collect 118 = .ok (.ifCond .le 7, 3) := by decide +kernel
theorem dX5_collect_121 : decode cX5_collect 121 = .ok (.iconst 1, 1) := by decide +kernel
theorem dX5_collect_122 : decode cX5_collect 122 = .ok (.goto 4, 3) := by decide +kernel
theorem dX5_collect_125 : decode cX5_collect 125 = .ok (.iconst 0, 1) := by decide +kernel
theorem dX5_collect_126 : decode cX5_collect 126 = .ok (.invokevirtual 50, 3) := by decide +kernel
theorem dX5_collect_129 : decode cX5_collect 129 = .ok (.iinc 6 1, 3) := by decide +kernel
theorem dX5_collect_132 : decode cX5_collect 132 = .ok (.goto (-102), 3) := by decide +kernel
theorem dX5_collect_135 : decode cX5_collect 135 = .ok (.iinc 5 1, 3) := by decide +kernel
theorem dX5_collect_138 : decode cX5_collect 138 = .ok (.goto (-119), 3) := by decide +kernel
theorem dX5_collect_141 : decode cX5_collect 141 = .ok (.return_, 1) := by decide +kernel
theorem dX5_add_0 : decode cX5_add 0 = .ok (.aload_n 0, 1) := by decide +kernel
theorem dX5_add_1 : decode cX5_add 1 = .ok (.getfield 25, 3) := by decide +kernel
theorem dX5_add_4 : decode cX5_add 4 = .ok (.sipush 512, 3) := by decide +kernel
theorem dX5_add_7 : decode cX5_add 7 = .ok (.if_icmp .ge 54, 3) := by decide +kernel
theorem dX5_add_10 : decode cX5_add 10 = .ok (.aload_n 0, 1) := by decide +kernel
theorem dX5_add_11 : decode cX5_add 11 = .ok (.getfield 9, 3) := by decide +kernel
theorem dX5_add_14 : decode cX5_add 14 = .ok (.aload_n 0, 1) := by decide +kernel
theorem dX5_add_15 : decode cX5_add 15 = .ok (.getfield 25, 3) := by decide +kernel
theorem dX5_add_18 : decode cX5_add 18 = .ok (.iload_n 1, 1) := by decide +kernel
theorem dX5_add_19 : decode cX5_add 19 = .ok (.iastore, 1) := by decide +kernel
theorem dX5_add_20 : decode cX5_add 20 = .ok (.aload_n 0, 1) := by decide +kernel
theorem dX5_add_21 : decode cX5_add 21 = .ok (.getfield 15, 3) := by decide +kernel
theorem dX5_add_24 : decode cX5_add 24 = .ok (.aload_n 0, 1) := by decide +kernel
theorem dX5_add_25 : decode cX5_add 25 = .ok (.getfield 25, 3) := by decide +kernel
theorem dX5_add_28 : decode cX5_add 28 = .ok (.iload_n 2, 1) := by decide +kernel
theorem dX5_add_29 : decode cX5_add 29 = .ok (.iastore, 1) := by decide +kernel
theorem dX5_add_30 : decode cX5_add 30 = .ok (.aload_n 0, 1) := by decide +kernel
theorem dX5_add_31 : decode cX5_add 31 = .ok (.getfield 18, 3) := by decide +kernel
theorem dX5_add_34 : decode cX5_add 34 = .ok (.aload_n 0, 1) := by decide +kernel
theorem dX5_add_35 : decode cX5_add 35 = .ok (.getfield 25, 3) := by decide +kernel
theorem dX5_add_38 : decode cX5_add 38 = .ok (.iload_n 3, 1) := by decide +kernel
theorem dX5_add_39 : decode cX5_add 39 = .ok (.iastore, 1) := by decide +kernel
theorem dX5_add_40 : decode cX5_add 40 = .ok (.aload_n 0, 1) := by decide +kernel
theorem dX5_add_41 : decode cX5_add 41 = .ok (.getfield 21, 3) := by decide +kernel
theorem dX5_add_44 : decode cX5_add 44 = .ok (.aload_n 0, 1) := by decide +kernel
theorem dX5_add_45 : decode cX5_add 45 = .ok (.getfield 25, 3) := by decide +kernel
theorem dX5_add_48 : decode cX5_add 48 = .ok (.iload 4, 2) := by decide +kernel
theorem dX5_add_50 : decode cX5_add 50 = .ok (.bastore, 1) := by decide +kernel
theorem dX5_add_51 : decode cX5_add 51 = .ok (.aload_n 0, 1) := by decide +kernel
theorem dX5_add_52 : decode cX5_add 52 = .ok (.dup, 1) := by decide +kernel
theorem dX5_add_53 : decode cX5_add 53 = .ok (.getfield 25, 3) := by decide +kernel
theorem dX5_add_56 : decode cX5_add 56 = .ok (.iconst 1, 1) := by decide +kernel
theorem dX5_add_57 : decode cX5_add 57 = .ok (.iadd, 1) := by decide +kernel
theorem dX5_add_58 : decode cX5_add 58 = .ok (.putfield 25, 3) := by decide +kernel
theorem dX5_add_61 : decode cX5_add 61 = .ok (.return_, 1) := by decide +kernel
theorem dX5_best_0 : decode cX5_best 0 = .ok (.iconst (-1), 1) := by decide +kernel
theorem dX5_best_1 : decode cX5_best 1 = .ok (.istore_n 1, 1) := by decide +kernel
theorem dX5_best_2 : decode cX5_best 2 = .ok (.iconst 0, 1) := by decide +kernel
theorem dX5_best_3 : decode cX5_best 3 = .ok (.istore_n 2, 1) := by decide +kernel
theorem dX5_best_4 : decode cX5_best 4 = .ok (.iload_n 2, 1) := by decide +kernel
theorem dX5_best_5 : decode cX5_best 5 = .ok (.aload_n 0, 1) := by decide +kernel
theorem dX5_best_6 : decode cX5_best 6 = .ok (.getfield 25, 3) := by decide +kernel
theorem dX5_best_9 : decode cX5_best 9 = .ok (.if_icmp .ge 31, 3) := by decide +kernel
theorem dX5_best_12 : decode cX5_best 12 = .ok (.iload_n 1, 1) := by decide +kernel
theorem dX5_best_13 : decode cX5_best 13 = .ok (.iconst (-1), 1) := by decide +kernel
theorem dX5_best_14 : decode cX5_best 14 = .ok (.if_icmp .eq 18, 3) := by decide +kernel
theorem dX5_best_17 : decode cX5_best 17 = .ok (.aload_n 0, 1) := by decide +kernel
theorem dX5_best_18 : decode cX5_best 18 = .ok (.getfield 18, 3) := by decide +kernel
theorem dX5_best_21 : decode cX5_best 21 = .ok (.iload_n 2, 1) := by decide +kernel
theorem dX5_best_22 : decode cX5_best 22 = .ok (.iaload, 1) := by decide +kernel
theorem dX5_best_23 : decode cX5_best 23 = .ok (.aload_n 0, 1) := by decide +kernel
theorem dX5_best_24 : decode cX5_best 24 = .ok (.getfield 18, 3) := by decide +kernel
theorem dX5_best_27 : decode cX5_best 27 = .ok (.iload_n 1, 1) := by decide +kernel
theorem dX5_best_28 : decode cX5_best 28 = .ok (.iaload, 1) := by decide +kernel
theorem dX5_best_29 : decode cX5_best 29 = .ok (.if_icmp .le 5, 3) := by decide +kernel
theorem dX5_best_32 : decode cX5_best 32 = .ok (.iload_n 2, 1) := by decide +kernel
theorem dX5_best_33 : decode cX5_best 33 = .ok (.istore_n 1, 1) := by decide +kernel
theorem dX5_best_34 : decode cX5_best 34 = .ok (.iinc 2 1, 3) := by decide +kernel
theorem dX5_best_37 : decode cX5_best 37 = .ok (.goto (-33), 3) := by decide +kernel
theorem dX5_best_40 : decode cX5_best 40 = .ok (.iload_n 1, 1) := by decide +kernel
theorem dX5_best_41 : decode cX5_best 41 = .ok (.ireturn, 1) := by decide +kernel
theorem dX5_listTouching_0 : decode cX5_listTouching 0 = .ok (.iconst 0, 1) := by decide +kernel
theorem dX5_listTouching_1 : decode cX5_listTouching 1 = .ok (.istore_n 2, 1) := by decide +kernel
theorem dX5_listTouching_2 : decode cX5_listTouching 2 = .ok (.iconst 0, 1) := by decide +kernel
theorem dX5_listTouching_3 : decode cX5_listTouching 3 = .ok (.istore_n 3, 1) := by decide +kernel
theorem dX5_listTouching_4 : decode cX5_listTouching 4 = .ok (.iload_n 3, 1) := by decide +kernel
theorem dX5_listTouching_5 : decode cX5_listTouching 5 = .ok (.aload_n 0, 1) := by decide +kernel
theorem dX5_listTouching_6 : decode cX5_listTouching 6 = .ok (.getfield 25, 3) := by decide +kernel
theorem dX5_listTouching_9 : decode cX5_listTouching 9 = .ok (.if_icmp .ge 31, 3) := by decide +kernel
theorem dX5_listTouching_12 : decode cX5_listTouching 12 = .ok (.iload_n 2, 1) := by decide +kernel
theorem dX5_listTouching_13 : decode cX5_listTouching 13 = .ok (.aload_n 1, 1) := by decide +kernel
theorem dX5_listTouching_14 : decode cX5_listTouching 14 = .ok (.arraylength, 1) := by decide +kernel
theorem dX5_listTouching_15 : decode cX5_listTouching 15 = .ok (.if_icmp .ge 25, 3) := by decide +kernel
theorem dX5_listTouching_18 : decode cX5_listTouching 18 = .ok (.aload_n 0, 1) := by decide +kernel
theorem dX5_listTouching_19 : decode cX5_listTouching 19 = .ok (.getfield 21, 3) := by decide +kernel
theorem dX5_listTouching_22 : decode cX5_listTouching 22 = .ok (.iload_n 3, 1) := by decide +kernel
theorem dX5_listTouching_23 : decode cX5_listTouching 23 = .ok (.baload, 1) := by decide +kernel
theorem dX5_listTouching_24 : decode cX5_listTouching 24 = .ok (.ifCond .eq 10, 3) := by decide +kernel
theorem dX5_listTouching_27 : decode cX5_listTouching 27 = .ok (.aload_n 1, 1) := by decide +kernel
theorem dX5_listTouching_28 : decode cX5_listTouching 28 = .ok (.iload_n 2, 1) := by decide +kernel
theorem dX5_listTouching_29 : decode cX5_listTouching 29 = .ok (.iload_n 3, 1) := by decide +kernel
theorem dX5_listTouching_30 : decode cX5_listTouching 30 = .ok (.iastore, 1) := by decide +kernel
theorem dX5_listTouching_31 : decode cX5_listTouching 31 = .ok (.iinc 2 1, 3) := by decide +kernel
theorem dX5_listTouching_34 : decode cX5_listTouching 34 = .ok (.iinc 3 1, 3) := by decide +kernel
theorem dX5_listTouching_37 : decode cX5_listTouching 37 = .ok (.goto (-33), 3) := by decide +kernel
theorem dX5_listTouching_40 : decode cX5_listTouching 40 = .ok (.iload_n 2, 1) := by decide +kernel
theorem dX5_listTouching_41 : decode cX5_listTouching 41 = .ok (.ireturn, 1) := by decide +kernel
theorem dX6_init_0 : decode cX6_init 0 = .ok (.aload_n 0, 1) := by decide +kernel
theorem dX6_init_1 : decode cX6_init 1 = .ok (.invokespecial 3, 3) := by decide +kernel
theorem dX6_init_4 : decode cX6_init 4 = .ok (.aload_n 0, 1) := by decide +kernel
theorem dX6_init_5 : decode cX6_init 5 = .ok (.bipush 40, 2) := by decide +kernel
theorem dX6_init_7 : decode cX6_init 7 = .ok (.newarray .int, 2) := by decide +kernel
theorem dX6_init_9 : decode cX6_init 9 = .ok (.putfield 9, 3) := by decide +kernel
theorem dX6_init_12 : decode cX6_init 12 = .ok (.return_, 1) := by decide +kernel
theorem dX6_bore_0 : decode cX6_bore 0 = .ok (.aload_n 0, 1) := by decide +kernel
theorem dX6_bore_1 : decode cX6_bore 1 = .ok (.getfield 9, 3) := by decide +kernel
theorem dX6_bore_4 : decode cX6_bore 4 = .ok (.iconst 0, 1) := by decide +kernel
theorem dX6_bore_5 : decode cX6_bore 5 = .ok (.iconst 0, 1) := by decide +kernel
theorem dX6_bore_6 : decode cX6_bore 6 = .ok (.iastore, 1) := by decide +kernel
theorem dX6_bore_7 : decode cX6_bore 7 = .ok (.aload_n 0, 1) := by decide +kernel
theorem dX6_bore_8 : decode cX6_bore 8 = .ok (.iconst 1, 1) := by decide +kernel
theorem dX6_bore_9 : decode cX6_bore 9 = .ok (.putfield 15, 3) := by decide +kernel
theorem dX6_bore_12 : decode cX6_bore 12 = .ok (.iload_n 1, 1) := by decide +kernel
theorem dX6_bore_13 : decode cX6_bore 13 = .ok (.istore_n 3, 1) := by decide +kernel
theorem dX6_bore_14 : decode cX6_bore 14 = .ok (.iload_n 3, 1) := by decide +kernel
theorem dX6_bore_15 : decode cX6_bore 15 = .ok (.iconst 1, 1) := by decide +kernel
theorem dX6_bore_16 : decode cX6_bore 16 = .ok (.if_icmp .lt 51, 3) := by decide +kernel
theorem dX6_bore_19 : decode cX6_bore 19 = .ok (.aload_n 0, 1) := by decide +kernel
theorem dX6_bore_20 : decode cX6_bore 20 = .ok (.getfield 15, 3) := by decide +kernel
theorem dX6_bore_23 : decode cX6_bore 23 = .ok (.bipush 40, 2) := by decide +kernel
theorem dX6_bore_25 : decode cX6_bore 25 = .ok (.if_icmp .ge 42, 3) := by decide +kernel
theorem dX6_bore_28 : decode cX6_bore 28 = .ok (.aload_n 0, 1) := by decide +kernel
theorem dX6_bore_29 : decode cX6_bore 29 = .ok (.getfield 9, 3) := by decide +kernel
theorem dX6_bore_32 : decode cX6_bore 32 = .ok (.aload_n 0, 1) := by decide +kernel
theorem dX6_bore_33 : decode cX6_bore 33 = .ok (.getfield 15, 3) := by decide +kernel
theorem dX6_bore_36 : decode cX6_bore 36 = .ok (.aload_n 0, 1) := by decide +kernel
theorem dX6_bore_37 : decode cX6_bore 37 = .ok (.getfield 9, 3) := by decide +kernel
theorem dX6_bore_40 : decode cX6_bore 40 = .ok (.aload_n 0, 1) := by decide +kernel
theorem dX6_bore_41 : decode cX6_bore 41 = .ok (.getfield 15, 3) := by decide +kernel
theorem dX6_bore_44 : decode cX6_bore 44 = .ok (.iconst 1, 1) := by decide +kernel
theorem dX6_bore_45 : decode cX6_bore 45 = .ok (.isub, 1) := by decide +kernel
theorem dX6_bore_46 : decode cX6_bore 46 = .ok (.iaload, 1) := by decide +kernel
theorem dX6_bore_47 : decode cX6_bore 47 = .ok (.iload_n 3, 1) := by decide +kernel
theorem dX6_bore_48 : decode cX6_bore 48 = .ok (.iadd, 1) := by decide +kernel
theorem dX6_bore_49 : decode cX6_bore 49 = .ok (.iastore, 1) := by decide +kernel
theorem dX6_bore_50 : decode cX6_bore 50 = .ok (.aload_n 0, 1) := by decide +kernel
theorem dX6_bore_51 : decode cX6_bore 51 = .ok (.dup, 1) := by decide +kernel
theorem dX6_bore_52 : decode cX6_bore 52 = .ok (.getfield 15, 3) := by decide +kernel
theorem dX6_bore_55 : decode cX6_bore 55 = .ok (.iconst 1, 1) := by decide +kernel
theorem dX6_bore_56 : decode cX6_bore 56 = .ok (.iadd, 1) := by decide +kernel
theorem dX6_bore_57 : decode cX6_bore 57 = .ok (.putfield 15, 3) := by decide +kernel
theorem dX6_bore_60 : decode cX6_bore 60 = .ok (.iload_n 3, 1) := by decide +kernel
theorem dX6_bore_61 : decode cX6_bore 61 = .ok (.iload_n 2, 1) := by decide +kernel
theorem dX6_bore_62 : decode cX6_bore 62 = .ok (.isub, 1) := by decide +kernel
theorem dX6_bore_63 : decode cX6_bore 63 = .ok (.istore_n 3, 1) := by decide +kernel
theorem dX6_bore_64 : decode cX6_bore 64 = .ok (.goto (-50), 3) := by decide +kernel
theorem dX6_bore_67 : decode cX6_bore 67 = .ok (.return_, 1) := by decide +kernel
theorem dX6_stoodBy_0 : decode cX6_stoodBy 0 = .ok (.aload_n 0, 1) := by decide +kernel
theorem dX6_stoodBy_1 : decode cX6_stoodBy 1 = .ok (.getfield 9, 3) := by decide +kernel
theorem dX6_stoodBy_4 : decode cX6_stoodBy 4 = .ok (.iload_n 2, 1) := by decide +kernel
theorem dX6_stoodBy_5 : decode cX6_stoodBy 5 = .ok (.iaload, 1) := by decide +kernel
theorem dX6_stoodBy_6 : decode cX6_stoodBy 6 = .ok (.aload_n 1, 1) := by decide +kernel
theorem dX6_stoodBy_7 : decode cX6_stoodBy 7 = .ok (.getfield 19, 3) := by decide +kernel
theorem dX6_stoodBy_10 : decode cX6_stoodBy 10 = .ok (.iconst 0, 1) := by decide +kernel
theorem dX6_stoodBy_11 : decode cX6_stoodBy 11 = .ok (.iaload, 1) := by decide +kernel
theorem dX6_stoodBy_12 : decode cX6_stoodBy 12 = .ok (.isub, 1) := by decide +kernel
theorem dX6_stoodBy_13 : decode cX6_stoodBy 13 = .ok (.istore_n 3, 1) := by decide +kernel
theorem dX6_stoodBy_14 : decode cX6_stoodBy 14 = .ok (.iload_n 3, 1) := by decide +kernel
theorem dX6_stoodBy_15 : decode cX6_stoodBy 15 = .ok (.ifCond .lt 19, 3) := by decide +kernel
theorem dX6_stoodBy_18 : decode cX6_stoodBy 18 = .ok (.iload_n 2, 1) := by decide +kernel
theorem dX6_stoodBy_19 : decode cX6_stoodBy 19 = .ok (.ifCond .le 17, 3) := by decide +kernel
theorem dX6_stoodBy_22 : decode cX6_stoodBy 22 = .ok (.aload_n 0, 1) := by decide +kernel
theorem dX6_stoodBy_23 : decode cX6_stoodBy 23 = .ok (.getfield 9, 3) := by decide +kernel
theorem dX6_stoodBy_26 : decode cX6_stoodBy 26 = .ok (.iload_n 2, 1) := by decide +kernel
theorem dX6_stoodBy_27 : decode cX6_stoodBy 27 = .ok (.iconst 1, 1) := by decide +kernel
theorem dX6_stoodBy_28 : decode cX6_stoodBy 28 = .ok (.isub, 1) := by decide +kernel
theorem dX6_stoodBy_29 : decode cX6_stoodBy 29 = .ok (.iaload, 1) := by decide +kernel
theorem dX6_stoodBy_30 : decode cX6_stoodBy 30 = .ok (.iload_n 3, 1) := by decide +kernel
theorem dX6_stoodBy_31 : decode cX6_stoodBy 31 = .ok (.if_icmp .lt 5, 3) := by decide +kernel
theorem dX6_stoodBy_34 : decode cX6_stoodBy 34 = .ok (.iconst 0, 1) := by decide +kernel
theorem dX6_stoodBy_35 : decode cX6_stoodBy 35 = .ok (.ireturn, 1) := by decide +kernel
theorem dX6_stoodBy_36 : decode cX6_stoodBy 36 = .ok (.iconst 0, 1) := by decide +kernel
theorem dX6_stoodBy_37 : decode cX6_stoodBy 37 = .ok (.istore 4, 2) := by decide +kernel
theorem dX6_stoodBy_39 : decode cX6_stoodBy 39 = .ok (.iload 4, 2) := by decide +kernel
theorem dX6_stoodBy_41 : decode cX6_stoodBy 41 = .ok (.aload_n 1, 1) := by decide +kernel
theorem dX6_stoodBy_42 : decode cX6_stoodBy 42 = .ok (.getfield 24, 3) := by decide +kernel
theorem dX6_stoodBy_45 : decode cX6_stoodBy 45 = .ok (.if_icmp .ge 45, 3) := by decide +kernel
theorem dX6_stoodBy_48 : decode cX6_stoodBy 48 = .ok (.iload_n 2, 1) := by decide +kernel
theorem dX6_stoodBy_49 : decode cX6_stoodBy 49 = .ok (.iload 4, 2) := by decide +kernel
theorem dX6_stoodBy_51 : decode cX6_stoodBy 51 = .ok (.iadd, 1) := by decide +kernel
theorem dX6_stoodBy_52 : decode cX6_stoodBy 52 = .ok (.istore 5, 2) := by decide +kernel
theorem dX6_stoodBy_54 : decode cX6_stoodBy 54 = .ok (.iload 5, 2) := by decide +kernel
theorem dX6_stoodBy_56 : decode cX6_stoodBy 56 = .ok (.aload_n 0, 1) := by decide +kernel
theorem dX6_stoodBy_57 : decode cX6_stoodBy 57 = .ok (.getfield 15, 3) := by decide +kernel
theorem dX6_stoodBy_60 : decode cX6_stoodBy 60 = .ok (.if_icmp .ge 22, 3) := by decide +kernel
theorem dX6_stoodBy_63 : decode cX6_stoodBy 63 = .ok (.aload_n 0, 1) := by decide +kernel
theorem dX6_stoodBy_64 : decode cX6_stoodBy 64 = .ok (.getfield 9, 3) := by decide +kernel
theorem dX6_stoodBy_67 : decode cX6_stoodBy 67 = .ok (.iload 5, 2) := by decide +kernel
theorem dX6_stoodBy_69 : decode cX6_stoodBy 69 = .ok (.iaload, 1) := by decide +kernel
theorem dX6_stoodBy_70 : decode cX6_stoodBy 70 = .ok (.iload_n 3, 1) := by decide +kernel
theorem dX6_stoodBy_71 : decode cX6_stoodBy 71 = .ok (.aload_n 1, 1) := by decide +kernel
theorem dX6_stoodBy_72 : decode cX6_stoodBy 72 = .ok (.getfield 19, 3) := by decide +kernel
theorem dX6_stoodBy_75 : decode cX6_stoodBy 75 = .ok (.iload 4, 2) := by decide +kernel
theorem dX6_stoodBy_77 : decode cX6_stoodBy 77 = .ok (.iaload, 1) := by decide +kernel
theorem dX6_stoodBy_78 : decode cX6_stoodBy 78 = .ok (.iadd, 1) := by decide +kernel
theorem dX6_stoodBy_79 : decode cX6_stoodBy 79 = .ok (.if_icmp .eq 5, 3) := by decide +kernel
theorem dX6_stoodBy_82 : decode cX6_stoodBy 82 = .ok (.iconst 0, 1) := by decide +kernel
theorem dX6_stoodBy_83 : decode cX6_stoodBy 83 = .ok (.ireturn, 1) := by decide +kernel
theorem dX6_stoodBy_84 : decode cX6_stoodBy 84 = .ok (.iinc 4 1, 3) := by decide +kernel
theorem dX6_stoodBy_87 : decode cX6_stoodBy 87 = .ok (.goto (-48), 3) := by decide +kernel
theorem dX6_stoodBy_90 : decode cX6_stoodBy 90 = .ok (.iconst 1, 1) := by decide +kernel
theorem dX6_stoodBy_91 : decode cX6_stoodBy 91 = .ok (.ireturn, 1) := by decide +kernel
theorem dX6_countPlaces_0 : decode cX6_countPlaces 0 = .ok (.iconst 0, 1) := by decide +kernel
theorem dX6_countPlaces_1 : decode cX6_countPlaces 1 = .ok (.istore_n 2, 1) := by decide +kernel
theorem dX6_countPlaces_2 : decode cX6_countPlaces 2 = .ok (.iconst 0, 1) := by decide +kernel
theorem dX6_countPlaces_3 : decode cX6_countPlaces 3 = .ok (.istore_n 3, 1) := by decide +kernel
theorem dX6_countPlaces_4 : decode cX6_countPlaces 4 = .ok (.iload_n 3, 1) := by decide +kernel
theorem dX6_countPlaces_5 : decode cX6_countPlaces 5 = .ok (.aload_n 0, 1) := by decide +kernel
theorem dX6_countPlaces_6 : decode cX6_countPlaces 6 = .ok (.getfield 15, 3) := by decide +kernel
theorem dX6_countPlaces_9 : decode cX6_countPlaces 9 = .ok (.if_icmp .ge 21, 3) := by decide +kernel
theorem dX6_countPlaces_12 : decode cX6_countPlaces 12 = .ok (.aload_n 0, 1) := by decide +kernel
theorem dX6_countPlaces_13 : decode cX6_countPlaces 13 = .ok (.aload_n 1, 1) := by decide +kernel
theorem dX6_countPlaces_14 : decode cX6_countPlaces 14 = .ok (.iload_n 3, 1) := by decide +kernel
theorem dX6_countPlaces_15 : decode cX6_countPlaces 15 = .ok (.invokevirtual 27, 3) := by decide +kernel
theorem dX6_countPlaces_18 : decode cX6_countPlaces 18 = .ok (.ifCond .eq 6, 3) := by decide +kernel
theorem dX6_countPlaces_21 : decode cX6_countPlaces 21 = .ok (.iinc 2 1, 3) := by decide +kernel
theorem dX6_countPlaces_24 : decode cX6_countPlaces 24 = .ok (.iinc 3 1, 3) := by decide +kernel
theorem dX6_countPlaces_27 : decode cX6_countPlaces 27 = .ok (.goto (-23), 3) := by decide +kernel
theorem dX6_countPlaces_30 : decode cX6_countPlaces 30 = .ok (.iload_n 2, 1) := by decide +kernel
theorem dX6_countPlaces_31 : decode cX6_countPlaces 31 = .ok (.ireturn, 1) := by decide +kernel
theorem dX6_placeOf_0 : decode cX6_placeOf 0 = .ok (.iconst 0, 1) := by decide +kernel
theorem dX6_placeOf_1 : decode cX6_placeOf 1 = .ok (.istore_n 3, 1) := by decide +kernel
theorem dX6_placeOf_2 : decode cX6_placeOf 2 = .ok (.iconst 0, 1) := by decide +kernel
theorem dX6_placeOf_3 : decode cX6_placeOf 3 = .ok (.istore 4, 2) := by decide +kernel
theorem dX6_placeOf_5 : decode cX6_placeOf 5 = .ok (.iload 4, 2) := by decide +kernel
theorem dX6_placeOf_7 : decode cX6_placeOf 7 = .ok (.aload_n 0, 1) := by decide +kernel
theorem dX6_placeOf_8 : decode cX6_placeOf 8 = .ok (.getfield 15, 3) := by decide +kernel
theorem dX6_placeOf_11 : decode cX6_placeOf 11 = .ok (.if_icmp .ge 42, 3) := by decide +kernel
theorem dX6_placeOf_14 : decode cX6_placeOf 14 = .ok (.aload_n 0, 1) := by decide +kernel
theorem dX6_placeOf_15 : decode cX6_placeOf 15 = .ok (.aload_n 1, 1) := by decide +kernel
theorem dX6_placeOf_16 : decode cX6_placeOf 16 = .ok (.iload 4, 2) := by decide +kernel
theorem dX6_placeOf_18 : decode cX6_placeOf 18 = .ok (.invokevirtual 27, 3) := by decide +kernel
theorem dX6_placeOf_21 : decode cX6_placeOf 21 = .ok (.ifCond .eq 26, 3) := by decide +kernel
theorem dX6_placeOf_24 : decode cX6_placeOf 24 = .ok (.iload_n 3, 1) := by decide +kernel
theorem dX6_placeOf_25 : decode cX6_placeOf 25 = .ok (.iload_n 2, 1) := by decide +kernel
theorem dX6_placeOf_26 : decode cX6_placeOf 26 = .ok (.if_icmp .ne 18, 3) := by decide +kernel
theorem dX6_placeOf_29 : decode cX6_placeOf 29 = .ok (.aload_n 0, 1) := by decide +kernel
theorem dX6_placeOf_30 : decode cX6_placeOf 30 = .ok (.getfield 9, 3) := by decide +kernel
theorem dX6_placeOf_33 : decode cX6_placeOf 33 = .ok (.iload 4, 2) := by decide +kernel
theorem dX6_placeOf_35 : decode cX6_placeOf 35 = .ok (.iaload, 1) := by decide +kernel
theorem dX6_placeOf_36 : decode cX6_placeOf 36 = .ok (.aload_n 1, 1) := by decide +kernel
theorem dX6_placeOf_37 : decode cX6_placeOf 37 = .ok (.getfield 19, 3) := by decide +kernel
theorem dX6_placeOf_40 : decode cX6_placeOf 40 = .ok (.iconst 0, 1) := by decide +kernel
theorem dX6_placeOf_41 : decode cX6_placeOf 41 = .ok (.iaload, 1) := by decide +kernel
theorem dX6_placeOf_42 : decode cX6_placeOf 42 = .ok (.isub, 1) := by decide +kernel
theorem dX6_placeOf_43 : decode cX6_placeOf 43 = .ok (.ireturn, 1) := by decide +kernel
theorem dX6_placeOf_44 : decode cX6_placeOf 44 = .ok (.iinc 3 1, 3) := by decide +kernel
theorem dX6_placeOf_47 : decode cX6_placeOf 47 = .ok (.iinc 4 1, 3) := by decide +kernel
theorem dX6_placeOf_50 : decode cX6_placeOf 50 = .ok (.goto (-45), 3) := by decide +kernel
theorem dX6_placeOf_53 : decode cX6_placeOf 53 = .ok (.iconst (-1), 1) := by decide +kernel
theorem dX6_placeOf_54 : decode cX6_placeOf 54 = .ok (.ireturn, 1) := by decide +kernel
theorem dX7_init_0 : decode cX7_init 0 = .ok (.aload_n 0, 1) := by decide +kernel
theorem dX7_init_1 : decode cX7_init 1 = .ok (.invokespecial 3, 3) := by decide +kernel
theorem dX7_init_4 : decode cX7_init 4 = .ok (.aload_n 0, 1) := by decide +kernel
theorem dX7_init_5 : decode cX7_init 5 = .ok (.new 9, 3) := by decide +kernel
theorem dX7_init_8 : decode cX7_init 8 = .ok (.dup, 1) := by decide +kernel
theorem dX7_init_9 : decode cX7_init 9 = .ok (.invokespecial 11, 3) := by decide +kernel
theorem dX7_init_12 : decode cX7_init 12 = .ok (.putfield 12, 3) := by decide +kernel
theorem dX7_init_15 : decode cX7_init 15 = .ok (.aload_n 0, 1) := by decide +kernel
theorem dX7_init_16 : decode cX7_init 16 = .ok (.new 9, 3) := by decide +kernel
theorem dX7_init_19 : decode cX7_init 19 = .ok (.dup, 1) := by decide +kernel
theorem dX7_init_20 : decode cX7_init 20 = .ok (.invokespecial 11, 3) := by decide +kernel
theorem dX7_init_23 : decode cX7_init 23 = .ok (.putfield 18, 3) := by decide +kernel
theorem dX7_init_26 : decode cX7_init 26 = .ok (.aload_n 0, 1) := by decide +kernel
theorem dX7_init_27 : decode cX7_init 27 = .ok (.sipush 512, 3) := by decide +kernel
theorem dX7_init_30 : decode cX7_init 30 = .ok (.newarray .int, 2) := by decide +kernel
theorem dX7_init_32 : decode cX7_init 32 = .ok (.putfield 21, 3) := by decide +kernel
theorem dX7_init_35 : decode cX7_init 35 = .ok (.aload_n 0, 1) := by decide +kernel
theorem dX7_init_36 : decode cX7_init 36 = .ok (.new 25, 3) := by decide +kernel
theorem dX7_init_39 : decode cX7_init 39 = .ok (.dup, 1) := by decide +kernel
theorem dX7_init_40 : decode cX7_init 40 = .ok (.invokespecial 27, 3) := by decide +kernel
theorem dX7_init_43 : decode cX7_init 43 = .ok (.putfield 28, 3) := by decide +kernel
theorem dX7_init_46 : decode cX7_init 46 = .ok (.return_, 1) := by decide +kernel
theorem dX7_countAlone_0 : decode cX7_countAlone 0 = .ok (.aload_n 0, 1) := by decide +kernel
theorem dX7_countAlone_1 : decode cX7_countAlone 1 = .ok (.getfield 12, 3) := by decide +kernel
theorem dX7_countAlone_4 : decode cX7_countAlone 4 = .ok (.aload_n 1, 1) := by decide +kernel
theorem dX7_countAlone_5 : decode cX7_countAlone 5 = .ok (.iconst 1, 1) := by decide +kernel
theorem dX7_countAlone_6 : decode cX7_countAlone 6 = .ok (.aload_n 2, 1) := by decide +kernel
theorem dX7_countAlone_7 : decode cX7_countAlone 7 = .ok (.aload_n 3, 1) := by decide +kernel
theorem dX7_countAlone_8 : decode cX7_countAlone 8 = .ok (.invokevirtual 32, 3) := by decide +kernel
theorem dX7_countAlone_11 : decode cX7_countAlone 11 = .ok (.aload_n 0, 1) := by decide +kernel
theorem dX7_countAlone_12 : decode cX7_countAlone 12 = .ok (.getfield 12, 3) := by decide +kernel
theorem dX7_countAlone_15 : decode cX7_countAlone 15 = .ok (.getfield 36, 3) := by decide +kernel
theorem dX7_countAlone_18 : decode cX7_countAlone 18 = .ok (.ireturn, 1) := by decide +kernel
theorem dX7_joinAlone_0 : decode cX7_joinAlone 0 = .ok (.aload_n 0, 1) := by decide +kernel
theorem dX7_joinAlone_1 : decode cX7_joinAlone 1 = .ok (.getfield 12, 3) := by decide +kernel
theorem dX7_joinAlone_4 : decode cX7_joinAlone 4 = .ok (.aload_n 1, 1) := by decide +kernel
theorem dX7_joinAlone_5 : decode cX7_joinAlone 5 = .ok (.iconst 1, 1) := by decide +kernel
theorem dX7_joinAlone_6 : decode cX7_joinAlone 6 = .ok (.aload_n 2, 1) := by decide +kernel
theorem dX7_joinAlone_7 : decode cX7_joinAlone 7 = .ok (.aload_n 3, 1) := by decide +kernel
theorem dX7_joinAlone_8 : decode cX7_joinAlone 8 = .ok (.invokevirtual 32, 3) := by decide +kernel
theorem dX7_joinAlone_11 : decode cX7_joinAlone 11 = .ok (.aload_n 0, 1) := by decide +kernel
theorem dX7_joinAlone_12 : decode cX7_joinAlone 12 = .ok (.getfield 12, 3) := by decide +kernel
theorem dX7_joinAlone_15 : decode cX7_joinAlone 15 = .ok (.invokevirtual 40, 3) := by decide +kernel
theorem dX7_joinAlone_18 : decode cX7_joinAlone 18 = .ok (.istore 4, 2) := by decide +kernel
theorem dX7_joinAlone_20 : decode cX7_joinAlone 20 = .ok (.iload 4, 2) := by decide +kernel
theorem dX7_joinAlone_22 : decode cX7_joinAlone 22 = .ok (.iconst (-1), 1) := by decide +kernel
theorem dX7_joinAlone_23 : decode cX7_joinAlone 23 = .ok (.if_icmp .ne 5, 3) := by decide +kernel
theorem dX7_joinAlone_26 : decode cX7_joinAlone 26 = .ok (.iconst 0, 1) := by decide +kernel
theorem dX7_joinAlone_27 : decode cX7_joinAlone 27 = .ok (.ireturn, 1) := by decide +kernel
theorem dX7_joinAlone_28 : decode cX7_joinAlone 28 = .ok (.aload_n 2, 1) := by decide +kernel
theorem dX7_joinAlone_29 : decode cX7_joinAlone 29 = .ok (.aload_n 1, 1) := by decide +kernel
theorem dX7_joinAlone_30 : decode cX7_joinAlone 30 = .ok (.aload_n 0, 1) := by decide +kernel
theorem dX7_joinAlone_31 : decode cX7_joinAlone 31 = .ok (.getfield 12, 3) := by decide +kernel
theorem dX7_joinAlone_34 : decode cX7_joinAlone 34 = .ok (.getfield 44, 3) := by decide +kernel
theorem dX7_joinAlone_37 : decode cX7_joinAlone 37 = .ok (.iload 4, 2) := by decide +kernel
theorem dX7_joinAlone_39 : decode cX7_joinAlone 39 = .ok (.iaload, 1) := by decide +kernel
theorem dX7_joinAlone_40 : decode cX7_joinAlone 40 = .ok (.aload_n 0, 1) := by decide +kernel
theorem dX7_joinAlone_41 : decode cX7_joinAlone 41 = .ok (.getfield 12, 3) := by decide +kernel
theorem dX7_joinAlone_44 : decode cX7_joinAlone 44 = .ok (.getfield 47, 3) := by decide +kernel
theorem dX7_joinAlone_47 : decode cX7_joinAlone 47 = .ok (.iload 4, 2) := by decide +kernel
theorem dX7_joinAlone_49 : decode cX7_joinAlone 49 = .ok (.iaload, 1) := by decide +kernel
theorem dX7_joinAlone_50 : decode cX7_joinAlone 50 = .ok (.invokevirtual 50, 3) := by decide +kernel
theorem dX7_joinAlone_53 : decode cX7_joinAlone 53 = .ok (.iconst 1, 1) := by decide +kernel
theorem dX7_joinAlone_54 : decode cX7_joinAlone 54 = .ok (.ireturn, 1) := by decide +kernel
theorem dX7_joinBoth_0 : decode cX7_joinBoth 0 = .ok (.aload_n 0, 1) := by decide +kernel
theorem dX7_joinBoth_1 : decode cX7_joinBoth 1 = .ok (.getfield 12, 3) := by decide +kernel
theorem dX7_joinBoth_4 : decode cX7_joinBoth 4 = .ok (.aload_n 1, 1) := by decide +kernel
theorem dX7_joinBoth_5 : decode cX7_joinBoth 5 = .ok (.iconst 0, 1) := by decide +kernel
theorem dX7_joinBoth_6 : decode cX7_joinBoth 6 = .ok (.aload_n 3, 1) := by decide +kernel
theorem dX7_joinBoth_7 : decode cX7_joinBoth 7 = .ok (.aload 4, 2) := by decide +kernel
theorem dX7_joinBoth_9 : decode cX7_joinBoth 9 = .ok (.invokevirtual 32, 3) := by decide +kernel
theorem dX7_joinBoth_12 : decode cX7_joinBoth 12 = .ok (.aload_n 0, 1) := by decide +kernel
theorem dX7_joinBoth_13 : decode cX7_joinBoth 13 = .ok (.getfield 18, 3) := by decide +kernel
theorem dX7_joinBoth_16 : decode cX7_joinBoth 16 = .ok (.aload_n 2, 1) := by decide +kernel
theorem dX7_joinBoth_17 : decode cX7_joinBoth 17 = .ok (.iconst 0, 1) := by decide +kernel
theorem dX7_joinBoth_18 : decode cX7_joinBoth 18 = .ok (.aload_n 3, 1) := by decide +kernel
theorem dX7_joinBoth_19 : decode cX7_joinBoth 19 = .ok (.aload 4, 2) := by decide +kernel
theorem dX7_joinBoth_21 : decode cX7_joinBoth 21 = .ok (.invokevirtual 32, 3) := by decide +kernel
theorem dX7_joinBoth_24 : decode cX7_joinBoth 24 = .ok (.aload_n 0, 1) := by decide +kernel
theorem dX7_joinBoth_25 : decode cX7_joinBoth 25 = .ok (.getfield 28, 3) := by decide +kernel
theorem dX7_joinBoth_28 : decode cX7_joinBoth 28 = .ok (.aload_n 1, 1) := by decide +kernel
theorem dX7_joinBoth_29 : decode cX7_joinBoth 29 = .ok (.aload_n 2, 1) := by decide +kernel
theorem dX7_joinBoth_30 : decode cX7_joinBoth 30 = .ok (.invokevirtual 56, 3) := by decide +kernel
theorem dX7_joinBoth_33 : decode cX7_joinBoth 33 = .ok (.aload_n 0, 1) := by decide +kernel
theorem dX7_joinBoth_34 : decode cX7_joinBoth 34 = .ok (.getfield 18, 3) := by decide +kernel
theorem dX7_joinBoth_37 : decode cX7_joinBoth 37 = .ok (.aload_n 0, 1) := by decide +kernel
theorem dX7_joinBoth_38 : decode cX7_joinBoth 38 = .ok (.getfield 21, 3) := by decide +kernel
theorem dX7_joinBoth_41 : decode cX7_joinBoth 41 = .ok (.invokevirtual 60, 3) := by decide +kernel
theorem dX7_joinBoth_44 : decode cX7_joinBoth 44 = .ok (.istore 5, 2) := by decide +kernel
theorem dX7_joinBoth_46 : decode cX7_joinBoth 46 = .ok (.aload_n 0, 1) := by decide +kernel
theorem dX7_joinBoth_47 : decode cX7_joinBoth 47 = .ok (.iconst (-1), 1) := by decide +kernel
theorem dX7_joinBoth_48 : decode cX7_joinBoth 48 = .ok (.putfield 64, 3) := by decide +kernel
theorem dX7_joinBoth_51 : decode cX7_joinBoth 51 = .ok (.iconst 0, 1) := by decide +kernel
theorem dX7_joinBoth_52 : decode cX7_joinBoth 52 = .ok (.istore 6, 2) := by decide +kernel
theorem dX7_joinBoth_54 : decode cX7_joinBoth 54 = .ok (.iload 6, 2) := by decide +kernel
theorem dX7_joinBoth_56 : decode cX7_joinBoth 56 = .ok (.aload_n 0, 1) := by decide +kernel
theorem dX7_joinBoth_57 : decode cX7_joinBoth 57 = .ok (.getfield 12, 3) := by decide +kernel
theorem dX7_joinBoth_60 : decode cX7_joinBoth 60 = .ok (.getfield 36, 3) := by decide +kernel
theorem dX7_joinBoth_63 : decode cX7_joinBoth 63 = .ok (.if_icmp .ge 93, 3) := by decide +kernel
theorem dX7_joinBoth_66 : decode cX7_joinBoth 66 = .ok (.aload_n 0, 1) := by decide +kernel
theorem dX7_joinBoth_67 : decode cX7_joinBoth 67 = .ok (.getfield 12, 3) := by decide +kernel
theorem dX7_joinBoth_70 : decode cX7_joinBoth 70 = .ok (.getfield 67, 3) := by decide +kernel
theorem dX7_joinBoth_73 : decode cX7_joinBoth 73 = .ok (.iload 6, 2) := by decide +kernel
theorem dX7_joinBoth_75 : decode cX7_joinBoth 75 = .ok (.baload, 1) := by decide +kernel
theorem dX7_joinBoth_76 : decode cX7_joinBoth 76 = .ok (.ifCond .eq 40, 3) := by decide +kernel
theorem dX7_joinBoth_79 : decode cX7_joinBoth 79 = .ok (.iconst 0, 1) := by decide +kernel
theorem dX7_joinBoth_80 : decode cX7_joinBoth 80 = .ok (.istore 7, 2) := by decide +kernel
theorem dX7_joinBoth_82 : decode cX7_joinBoth 82 = .ok (.iload 7, 2) := by decide +kernel
theorem dX7_joinBoth_84 : decode cX7_joinBoth 84 = .ok (.aload_n 0, 1) := by decide +kernel
theorem dX7_joinBoth_85 : decode cX7_joinBoth 85 = .ok (.getfield 18, 3) := by decide +kernel
theorem dX7_joinBoth_88 : decode cX7_joinBoth 88 = .ok (.getfield 36, 3) := by decide +kernel
theorem dX7_joinBoth_91 : decode cX7_joinBoth 91 = .ok (.if_icmp .ge 22, 3) := by decide +kernel
theorem dX7_joinBoth_94 : decode cX7_joinBoth 94 = .ok (.aload_n 0, 1) := by decide +kernel
theorem dX7_joinBoth_95 : decode cX7_joinBoth 95 = .ok (.aload_n 1, 1) := by decide +kernel
theorem dX7_joinBoth_96 : decode cX7_joinBoth 96 = .ok (.iload 6, 2) := by decide +kernel
theorem dX7_joinBoth_98 : decode cX7_joinBoth 98 = .ok (.aload_n 2, 1) := by decide +kernel
theorem dX7_joinBoth_99 : decode cX7_joinBoth 99 = .ok (.iload 7, 2) := by decide +kernel
theorem dX7_joinBoth_101 : decode cX7_joinBoth 101 = .ok (.aload_n 3, 1) := by decide +kernel
theorem dX7_joinBoth_102 : decode cX7_joinBoth 102 = .ok (.aload 4, 2) := by decide +kernel
theorem dX7_joinBoth_104 : decode cX7_joinBoth 104 = .ok (.invokevirtual 71, 3) := by decide +kernel
theorem dX7_joinBoth_107 : decode cX7_joinBoth 107 = .ok (.iinc 7 1, 3) := by decide +kernel
theorem dX7_joinBoth_110 : decode cX7_joinBoth 110 = .ok (.goto (-28), 3) := by decide +kernel
theorem dX7_joinBoth_113 : decode cX7_joinBoth 113 = .ok (.goto 37, 3) := by decide +kernel
theorem dX7_joinBoth_116 : decode cX7_joinBoth 116 = .ok (.iconst 0, 1) := by decide +kernel
theorem dX7_joinBoth_117 : decode cX7_joinBoth 117 = .ok (.istore 7, 2) := by decide +kernel
theorem dX7_joinBoth_119 : decode cX7_joinBoth 119 = .ok (.iload 7, 2) := by decide +kernel
theorem dX7_joinBoth_121 : decode cX7_joinBoth 121 = .ok (.iload 5, 2) := by decide +kernel
theorem dX7_joinBoth_123 : decode cX7_joinBoth 123 = .ok (.if_icmp .ge 27, 3) := by decide +kernel
theorem dX7_joinBoth_126 : decode cX7_joinBoth 126 = .ok (.aload_n 0, 1) := by decide +kernel
theorem dX7_joinBoth_127 : decode cX7_joinBoth 127 = .ok (.aload_n 1, 1) := by decide +kernel
theorem dX7_joinBoth_128 : decode cX7_joinBoth 128 = .ok (.iload 6, 2) := by decide +kernel
theorem dX7_joinBoth_130 : decode cX7_joinBoth 130 = .ok (.aload_n 2, 1) := by decide +kernel
theorem dX7_joinBoth_131 : decode cX7_joinBoth 131 = .ok (.aload_n 0, 1) := by decide +kernel
theorem dX7_joinBoth_132 : decode cX7_joinBoth 132 = .ok (.getfield 21, 3) := by decide +kernel
theorem dX7_joinBoth_135 : decode cX7_joinBoth 135 = .ok (.iload 7, 2) := by decide +kernel
theorem dX7_joinBoth_137 : decode cX7_joinBoth 137 = .ok (.iaload, 1) := by decide +kernel
theorem dX7_joinBoth_138 : decode cX7_joinBoth 138 = .ok (.aload_n 3, 1) := by decide +kernel
theorem dX7_joinBoth_139 : decode cX7_joinBoth 139 = .ok (.aload 4, 2) := by decide +kernel
theorem dX7_joinBoth_141 : decode cX7_joinBoth 141 = .ok (.invokevirtual 71, 3) := by decide +kernel
theorem dX7_joinBoth_144 : decode cX7_joinBoth 144 = .ok (.iinc 7 1, 3) := by decide +kernel
theorem dX7_joinBoth_147 : decode cX7_joinBoth 147 = .ok (.goto (-28), 3) := by decide +kernel
theorem dX7_joinBoth_150 : decode cX7_joinBoth 150 = .ok (.iinc 6 1, 3) := by decide +kernel
theorem dX7_joinBoth_153 : decode cX7_joinBoth 153 = .ok (.goto (-99), 3) := by decide +kernel
theorem dX7_joinBoth_156 : decode cX7_joinBoth 156 = .ok (.aload_n 0, 1) := by decide +kernel
theorem dX7_joinBoth_157 : decode cX7_joinBoth 157 = .ok (.getfield 64, 3) := by decide +kernel
theorem dX7_joinBoth_160 : decode cX7_joinBoth 160 = .ok (.iconst (-1), 1) := by decide +kernel
theorem dX7_joinBoth_161 : decode cX7_joinBoth 161 = .ok (.if_icmp .ne 5, 3) := by decide +kernel
theorem dX7_joinBoth_164 : decode cX7_joinBoth 164 = .ok (.iconst 0, 1) := by decide +kernel
theorem dX7_joinBoth_165 : decode cX7_joinBoth 165 = .ok (.ireturn, 1) := by decide +kernel
theorem dX7_joinBoth_166 : decode cX7_joinBoth 166 = .ok (.aload_n 3, 1) := by decide +kernel
theorem dX7_joinBoth_167 : decode cX7_joinBoth 167 = .ok (.aload_n 1, 1) := by decide +kernel
theorem dX7_joinBoth_168 : decode cX7_joinBoth 168 = .ok (.aload_n 0, 1) := by decide +kernel
theorem dX7_joinBoth_169 : decode cX7_joinBoth 169 = .ok (.getfield 12, 3) := by decide +kernel
theorem dX7_joinBoth_172 : decode cX7_joinBoth 172 = .ok (.getfield 44, 3) := by decide +kernel
theorem dX7_joinBoth_175 : decode cX7_joinBoth 175 = .ok (.aload_n 0, 1) := by decide +kernel
theorem dX7_joinBoth_176 : decode cX7_joinBoth 176 = .ok (.getfield 75, 3) := by decide +kernel
theorem dX7_joinBoth_179 : decode cX7_joinBoth 179 = .ok (.iaload, 1) := by decide +kernel
theorem dX7_joinBoth_180 : decode cX7_joinBoth 180 = .ok (.aload_n 0, 1) := by decide +kernel
theorem dX7_joinBoth_181 : decode cX7_joinBoth 181 = .ok (.getfield 12, 3) := by decide +kernel
theorem dX7_joinBoth_184 : decode cX7_joinBoth 184 = .ok (.getfield 47, 3) := by decide +kernel
theorem dX7_joinBoth_187 : decode cX7_joinBoth 187 = .ok (.aload_n 0, 1) := by decide +kernel
theorem dX7_joinBoth_188 : decode cX7_joinBoth 188 = .ok (.getfield 75, 3) := by decide +kernel
theorem dX7_joinBoth_191 : decode cX7_joinBoth 191 = .ok (.iaload, 1) := by decide +kernel
theorem dX7_joinBoth_192 : decode cX7_joinBoth 192 = .ok (.invokevirtual 50, 3) := by decide +kernel
theorem dX7_joinBoth_195 : decode cX7_joinBoth 195 = .ok (.aload_n 3, 1) := by decide +kernel
theorem dX7_joinBoth_196 : decode cX7_joinBoth 196 = .ok (.aload_n 2, 1) := by decide +kernel
theorem dX7_joinBoth_197 : decode cX7_joinBoth 197 = .ok (.aload_n 0, 1) := by decide +kernel
theorem dX7_joinBoth_198 : decode cX7_joinBoth 198 = .ok (.getfield 18, 3) := by decide +kernel
theorem dX7_joinBoth_201 : decode cX7_joinBoth 201 = .ok (.getfield 44, 3) := by decide +kernel
theorem dX7_joinBoth_204 : decode cX7_joinBoth 204 = .ok (.aload_n 0, 1) := by decide +kernel
theorem dX7_joinBoth_205 : decode cX7_joinBoth 205 = .ok (.getfield 78, 3) := by decide +kernel
theorem dX7_joinBoth_208 : decode cX7_joinBoth 208 = .ok (.iaload, 1) := by decide +kernel
theorem dX7_joinBoth_209 : decode cX7_joinBoth 209 = .ok (.aload_n 0, 1) := by decide +kernel
theorem dX7_joinBoth_210 : decode cX7_joinBoth 210 = .ok (.getfield 18, 3) := by decide +kernel
theorem dX7_joinBoth_213 : decode cX7_joinBoth 213 = .ok (.getfield 47, 3) := by decide +kernel
theorem dX7_joinBoth_216 : decode cX7_joinBoth 216 = .ok (.aload_n 0, 1) := by decide +kernel
theorem dX7_joinBoth_217 : decode cX7_joinBoth 217 = .ok (.getfield 78, 3) := by decide +kernel
theorem dX7_joinBoth_220 : decode cX7_joinBoth 220 = .ok (.iaload, 1) := by decide +kernel
theorem dX7_joinBoth_221 : decode cX7_joinBoth 221 = .ok (.invokevirtual 50, 3) := by decide +kernel
theorem dX7_joinBoth_224 : decode cX7_joinBoth 224 = .ok (.iconst 1, 1) := by decide +kernel
theorem dX7_joinBoth_225 : decode cX7_joinBoth 225 = .ok (.ireturn, 1) := by decide +kernel
theorem dX7_weigh_0 : decode cX7_weigh 0 = .ok (.aload_n 0, 1) := by decide +kernel
theorem dX7_weigh_1 : decode cX7_weigh 1 = .ok (.iload_n 2, 1) := by decide +kernel
theorem dX7_weigh_2 : decode cX7_weigh 2 = .ok (.iload 4, 2) := by decide +kernel
theorem dX7_weigh_4 : decode cX7_weigh 4 = .ok (.invokevirtual 81, 3) := by decide +kernel
theorem dX7_weigh_7 : decode cX7_weigh 7 = .ok (.istore 7, 2) := by decide +kernel
theorem dX7_weigh_9 : decode cX7_weigh 9 = .ok (.iload 7, 2) := by decide +kernel
theorem dX7_weigh_11 : decode cX7_weigh 11 = .ok (.aload_n 0, 1) := by decide +kernel
theorem dX7_weigh_12 : decode cX7_weigh 12 = .ok (.getfield 64, 3) := by decide +kernel
theorem dX7_weigh_15 : decode cX7_weigh 15 = .ok (.if_icmp .gt 4, 3) := by decide +kernel
theorem dX7_weigh_18 : decode cX7_weigh 18 = .ok (.return_, 1) := by decide +kernel
theorem dX7_weigh_19 : decode cX7_weigh 19 = .ok (.iconst 1, 1) := by decide +kernel
theorem dX7_weigh_20 : decode cX7_weigh 20 = .ok (.istore 8, 2) := by decide +kernel
theorem dX7_weigh_22 : decode cX7_weigh 22 = .ok (.aload_n 0, 1) := by decide +kernel
theorem dX7_weigh_23 : decode cX7_weigh 23 = .ok (.getfield 28, 3) := by decide +kernel
theorem dX7_weigh_26 : decode cX7_weigh 26 = .ok (.aload_n 0, 1) := by decide +kernel
theorem dX7_weigh_27 : decode cX7_weigh 27 = .ok (.getfield 18, 3) := by decide +kernel
theorem dX7_weigh_30 : decode cX7_weigh 30 = .ok (.getfield 44, 3) := by decide +kernel
theorem dX7_weigh_33 : decode cX7_weigh 33 = .ok (.iload 4, 2) := by decide +kernel
theorem dX7_weigh_35 : decode cX7_weigh 35 = .ok (.iaload, 1) := by decide +kernel
theorem dX7_weigh_36 : decode cX7_weigh 36 = .ok (.aload_n 0, 1) := by decide +kernel
theorem dX7_weigh_37 : decode cX7_weigh 37 = .ok (.getfield 12, 3) := by decide +kernel
theorem dX7_weigh_40 : decode cX7_weigh 40 = .ok (.getfield 44, 3) := by decide +kernel
theorem dX7_weigh_43 : decode cX7_weigh 43 = .ok (.iload_n 2, 1) := by decide +kernel
theorem dX7_weigh_44 : decode cX7_weigh 44 = .ok (.iaload, 1) := by decide +kernel
theorem dX7_weigh_45 : decode cX7_weigh 45 = .ok (.isub, 1) := by decide +kernel
theorem dX7_weigh_46 : decode cX7_weigh 46 = .ok (.invokevirtual 85, 3) := by decide +kernel
theorem dX7_weigh_49 : decode cX7_weigh 49 = .ok (.ifCond .eq 81, 3) := by decide +kernel
theorem dX7_weigh_52 : decode cX7_weigh 52 = .ok (.aload 5, 2) := by decide +kernel
theorem dX7_weigh_54 : decode cX7_weigh 54 = .ok (.aload_n 1, 1) := by decide +kernel
theorem dX7_weigh_55 : decode cX7_weigh 55 = .ok (.aload_n 0, 1) := by decide +kernel
theorem dX7_weigh_56 : decode cX7_weigh 56 = .ok (.getfield 12, 3) := by decide +kernel
theorem dX7_weigh_59 : decode cX7_weigh 59 = .ok (.getfield 44, 3) := by decide +kernel
theorem dX7_weigh_62 : decode cX7_weigh 62 = .ok (.iload_n 2, 1) := by decide +kernel
theorem dX7_weigh_63 : decode cX7_weigh 63 = .ok (.iaload, 1) := by decide +kernel
theorem dX7_weigh_64 : decode cX7_weigh 64 = .ok (.aload_n 0, 1) := by decide +kernel
theorem dX7_weigh_65 : decode cX7_weigh 65 = .ok (.getfield 12, 3) := by decide +kernel
theorem dX7_weigh_68 : decode cX7_weigh 68 = .ok (.getfield 47, 3) := by decide +kernel
theorem dX7_weigh_71 : decode cX7_weigh 71 = .ok (.iload_n 2, 1) := by decide +kernel
theorem dX7_weigh_72 : decode cX7_weigh 72 = .ok (.iaload, 1) := by decide +kernel
theorem dX7_weigh_73 : decode cX7_weigh 73 = .ok (.invokevirtual 89, 3) := by decide +kernel
theorem dX7_weigh_76 : decode cX7_weigh 76 = .ok (.aload 5, 2) := by decide +kernel
theorem dX7_weigh_78 : decode cX7_weigh 78 = .ok (.aload_n 3, 1) := by decide +kernel
theorem dX7_weigh_79 : decode cX7_weigh 79 = .ok (.aload_n 0, 1) := by decide +kernel
theorem dX7_weigh_80 : decode cX7_weigh 80 = .ok (.getfield 18, 3) := by decide +kernel
theorem dX7_weigh_83 : decode cX7_weigh 83 = .ok (.getfield 44, 3) := by decide +kernel
theorem dX7_weigh_86 : decode cX7_weigh 86 = .ok (.iload 4, 2) := by decide +kernel
theorem dX7_weigh_88 : decode cX7_weigh 88 = .ok (.iaload, 1) := by decide +kernel
theorem dX7_weigh_89 : decode cX7_weigh 89 = .ok (.aload_n 0, 1) := by decide +kernel
theorem dX7_weigh_90 : decode cX7_weigh 90 = .ok (.getfield 18, 3) := by decide +kernel
theorem dX7_weigh_93 : decode cX7_weigh 93 = .ok (.getfield 47, 3) := by decide +kernel
theorem dX7_weigh_96 : decode cX7_weigh 96 = .ok (.iload 4, 2) := by decide +kernel
theorem dX7_weigh_98 : decode cX7_weigh 98 = .ok (.iaload, 1) := by decide +kernel
theorem dX7_weigh_99 : decode cX7_weigh 99 = .ok (.aload 6, 2) := by decide +kernel
theorem dX7_weigh_101 : decode cX7_weigh 101 = .ok (.invokevirtual 92, 3) := by decide +kernel
theorem dX7_weigh_104 : decode cX7_weigh 104 = .ok (.istore 8, 2) := by decide +kernel
theorem dX7_weigh_106 : decode cX7_weigh 106 = .ok (.aload 5, 2) := by decide +kernel
theorem dX7_weigh_108 : decode cX7_weigh 108 = .ok (.aload_n 1, 1) := by decide +kernel
theorem dX7_weigh_109 : decode cX7_weigh 109 = .ok (.aload_n 0, 1) := by decide +kernel
theorem dX7_weigh_110 : decode cX7_weigh 110 = .ok (.getfield 12, 3) := by decide +kernel
theorem dX7_weigh_113 : decode cX7_weigh 113 = .ok (.getfield 44, 3) := by decide +kernel
theorem dX7_weigh_116 : decode cX7_weigh 116 = .ok (.iload_n 2, 1) := by decide +kernel
theorem dX7_weigh_117 : decode cX7_weigh 117 = .ok (.iaload, 1) := by decide +kernel
theorem dX7_weigh_118 : decode cX7_weigh 118 = .ok (.aload_n 0, 1) := by decide +kernel
theorem dX7_weigh_119 : decode cX7_weigh 119 = .ok (.getfield 12, 3) := by decide +kernel
theorem dX7_weigh_122 : decode cX7_weigh 122 = .ok (.getfield 47, 3) := by decide +kernel
theorem dX7_weigh_125 : decode cX7_weigh 125 = .ok (.iload_n 2, 1) := by decide +kernel
theorem dX7_weigh_126 : decode cX7_weigh 126 = .ok (.iaload, 1) := by decide +kernel
theorem dX7_weigh_127 : decode cX7_weigh 127 = .ok (.invokevirtual 96, 3) := by decide +kernel
theorem dX7_weigh_130 : decode cX7_weigh 130 = .ok (.iload 8, 2) := by decide +kernel
theorem dX7_weigh_132 : decode cX7_weigh 132 = .ok (.ifCond .eq 20, 3) := by decide +kernel
theorem dX7_weigh_135 : decode cX7_weigh 135 = .ok (.aload_n 0, 1) := by decide +kernel
theorem dX7_weigh_136 : decode cX7_weigh 136 = .ok (.iload 7, 2) := by decide +kernel
theorem dX7_weigh_138 : decode cX7_weigh 138 = .ok (.putfield 64, 3) := by decide +kernel
theorem dX7_weigh_141 : decode cX7_weigh 141 = .ok (.aload_n 0, 1) := by decide +kernel
theorem dX7_weigh_142 : decode cX7_weigh 142 = .ok (.iload_n 2, 1) := by decide +kernel
theorem dX7_weigh_143 : decode cX7_weigh 143 = .ok (.putfield 75, 3) := by decide +kernel
theorem dX7_weigh_146 : decode cX7_weigh 146 = .ok (.aload_n 0, 1) := by decide +kernel
theorem dX7_weigh_147 : decode cX7_weigh 147 = .ok (.iload 4, 2) := by decide +kernel
theorem dX7_weigh_149 : decode cX7_weigh 149 = .ok (.putfield 78, 3) := by decide +kernel
theorem dX7_weigh_152 : decode cX7_weigh 152 = .ok (.return_, 1) := by decide +kernel
theorem dX7_gainOf_0 : decode cX7_gainOf 0 = .ok (.aload_n 0, 1) := by decide +kernel
theorem dX7_gainOf_1 : decode cX7_gainOf 1 = .ok (.getfield 18, 3) := by decide +kernel
theorem dX7_gainOf_4 : decode cX7_gainOf 4 = .ok (.getfield 44, 3) := by decide +kernel
theorem dX7_gainOf_7 : decode cX7_gainOf 7 = .ok (.iload_n 2, 1) := by decide +kernel
theorem dX7_gainOf_8 : decode cX7_gainOf 8 = .ok (.iaload, 1) := by decide +kernel
theorem dX7_gainOf_9 : decode cX7_gainOf 9 = .ok (.aload_n 0, 1) := by decide +kernel
theorem dX7_gainOf_10 : decode cX7_gainOf 10 = .ok (.getfield 12, 3) := by decide +kernel
theorem dX7_gainOf_13 : decode cX7_gainOf 13 = .ok (.getfield 44, 3) := by decide +kernel
theorem dX7_gainOf_16 : decode cX7_gainOf 16 = .ok (.iload_n 1, 1) := by decide +kernel
theorem dX7_gainOf_17 : decode cX7_gainOf 17 = .ok (.iaload, 1) := by decide +kernel
theorem dX7_gainOf_18 : decode cX7_gainOf 18 = .ok (.isub, 1) := by decide +kernel
theorem dX7_gainOf_19 : decode cX7_gainOf 19 = .ok (.istore_n 3, 1) := by decide +kernel
theorem dX7_gainOf_20 : decode cX7_gainOf 20 = .ok (.aload_n 0, 1) := by decide +kernel
theorem dX7_gainOf_21 : decode cX7_gainOf 21 = .ok (.getfield 18, 3) := by decide +kernel
theorem dX7_gainOf_24 : decode cX7_gainOf 24 = .ok (.getfield 47, 3) := by decide +kernel
theorem dX7_gainOf_27 : decode cX7_gainOf 27 = .ok (.iload_n 2, 1) := by decide +kernel
theorem dX7_gainOf_28 : decode cX7_gainOf 28 = .ok (.iaload, 1) := by decide +kernel
theorem dX7_gainOf_29 : decode cX7_gainOf 29 = .ok (.aload_n 0, 1) := by decide +kernel
theorem dX7_gainOf_30 : decode cX7_gainOf 30 = .ok (.getfield 12, 3) := by decide +kernel
theorem dX7_gainOf_33 : decode cX7_gainOf 33 = .ok (.getfield 47, 3) := by decide +kernel
theorem dX7_gainOf_36 : decode cX7_gainOf 36 = .ok (.iload_n 1, 1) := by decide +kernel
theorem dX7_gainOf_37 : decode cX7_gainOf 37 = .ok (.iaload, 1) := by decide +kernel
theorem dX7_gainOf_38 : decode cX7_gainOf 38 = .ok (.isub, 1) := by decide +kernel
theorem dX7_gainOf_39 : decode cX7_gainOf 39 = .ok (.istore 4, 2) := by decide +kernel
theorem dX7_gainOf_41 : decode cX7_gainOf 41 = .ok (.aload_n 0, 1) := by decide +kernel
theorem dX7_gainOf_42 : decode cX7_gainOf 42 = .ok (.getfield 28, 3) := by decide +kernel
theorem dX7_gainOf_45 : decode cX7_gainOf 45 = .ok (.iload_n 3, 1) := by decide +kernel
theorem dX7_gainOf_46 : decode cX7_gainOf 46 = .ok (.iload 4, 2) := by decide +kernel
theorem dX7_gainOf_48 : decode cX7_gainOf 48 = .ok (.invokevirtual 99, 3) := by decide +kernel
theorem dX7_gainOf_51 : decode cX7_gainOf 51 = .ok (.istore 5, 2) := by decide +kernel
theorem dX7_gainOf_53 : decode cX7_gainOf 53 = .ok (.iload 5, 2) := by decide +kernel
theorem dX7_gainOf_55 : decode cX7_gainOf 55 = .ok (.ifCond .gt 27, 3) := by decide +kernel
theorem dX7_gainOf_58 : decode cX7_gainOf 58 = .ok (.aload_n 0, 1) := by decide +kernel
theorem dX7_gainOf_59 : decode cX7_gainOf 59 = .ok (.getfield 12, 3) := by decide +kernel
theorem dX7_gainOf_62 : decode cX7_gainOf 62 = .ok (.getfield 67, 3) := by decide +kernel
theorem dX7_gainOf_65 : decode cX7_gainOf 65 = .ok (.iload_n 1, 1) := by decide +kernel
theorem dX7_gainOf_66 : decode cX7_gainOf 66 = .ok (.baload, 1) := by decide +kernel
theorem dX7_gainOf_67 : decode cX7_gainOf 67 = .ok (.ifCond .eq 19, 3) := by decide +kernel
theorem dX7_gainOf_70 : decode cX7_gainOf 70 = .ok (.aload_n 0, 1) := by decide +kernel
theorem dX7_gainOf_71 : decode cX7_gainOf 71 = .ok (.getfield 18, 3) := by decide +kernel
theorem dX7_gainOf_74 : decode cX7_gainOf 74 = .ok (.getfield 67, 3) := by decide +kernel
theorem dX7_gainOf_77 : decode cX7_gainOf 77 = .ok (.iload_n 2, 1) := by decide +kernel
theorem dX7_gainOf_78 : decode cX7_gainOf 78 = .ok (.baload, 1) := by decide +kernel
theorem dX7_gainOf_79 : decode cX7_gainOf 79 = .ok (.ifCond .eq 7, 3) := by decide +kernel
theorem dX7_gainOf_82 : decode cX7_gainOf 82 = .ok (.iconst 1, 1) := by decide +kernel
theorem dX7_gainOf_83 : decode cX7_gainOf 83 = .ok (.goto 4, 3) := by decide +kernel
theorem dX7_gainOf_86 : decode cX7_gainOf 86 = .ok (.iconst 0, 1) := by decide +kernel
theorem dX7_gainOf_87 : decode cX7_gainOf 87 = .ok (.istore 6, 2) := by decide +kernel
theorem dX7_gainOf_89 : decode cX7_gainOf 89 = .ok (.iload 6, 2) := by decide +kernel
theorem dX7_gainOf_91 : decode cX7_gainOf 91 = .ok (.ifCond .eq 9, 3) := by decide +kernel
theorem dX7_gainOf_94 : decode cX7_gainOf 94 = .ok (.iload 5, 2) := by decide +kernel
theorem dX7_gainOf_96 : decode cX7_gainOf 96 = .ok (.iconst (-1), 1) := by decide +kernel
theorem dX7_gainOf_97 : decode cX7_gainOf 97 = .ok (.if_icmp .ne 5, 3) := by decide +kernel
theorem dX7_gainOf_100 : decode cX7_gainOf 100 = .ok (.iconst (-1), 1) := by decide +kernel
theorem dX7_gainOf_101 : decode cX7_gainOf 101 = .ok (.ireturn, 1) := by decide +kernel
theorem dX7_gainOf_102 : decode cX7_gainOf 102 = .ok (.aload_n 0, 1) := by decide +kernel
theorem dX7_gainOf_103 : decode cX7_gainOf 103 = .ok (.getfield 28, 3) := by decide +kernel
theorem dX7_gainOf_106 : decode cX7_gainOf 106 = .ok (.iload_n 3, 1) := by decide +kernel
theorem dX7_gainOf_107 : decode cX7_gainOf 107 = .ok (.invokevirtual 102, 3) := by decide +kernel
theorem dX7_gainOf_110 : decode cX7_gainOf 110 = .ok (.istore 7, 2) := by decide +kernel
theorem dX7_gainOf_112 : decode cX7_gainOf 112 = .ok (.aload_n 0, 1) := by decide +kernel
theorem dX7_gainOf_113 : decode cX7_gainOf 113 = .ok (.getfield 28, 3) := by decide +kernel
theorem dX7_gainOf_116 : decode cX7_gainOf 116 = .ok (.iload 4, 2) := by decide +kernel
theorem dX7_gainOf_118 : decode cX7_gainOf 118 = .ok (.invokevirtual 106, 3) := by decide +kernel
theorem dX7_gainOf_121 : decode cX7_gainOf 121 = .ok (.istore 8, 2) := by decide +kernel
theorem dX7_gainOf_123 : decode cX7_gainOf 123 = .ok (.iload 7, 2) := by decide +kernel
theorem dX7_gainOf_125 : decode cX7_gainOf 125 = .ok (.iconst (-1), 1) := by decide +kernel
theorem dX7_gainOf_126 : decode cX7_gainOf 126 = .ok (.if_icmp .eq 9, 3) := by decide +kernel
theorem dX7_gainOf_129 : decode cX7_gainOf 129 = .ok (.iload 8, 2) := by decide +kernel
theorem dX7_gainOf_131 : decode cX7_gainOf 131 = .ok (.iconst (-1), 1) := by decide +kernel
theorem dX7_gainOf_132 : decode cX7_gainOf 132 = .ok (.if_icmp .ne 5, 3) := by decide +kernel
theorem dX7_gainOf_135 : decode cX7_gainOf 135 = .ok (.iconst (-1), 1) := by decide +kernel
theorem dX7_gainOf_136 : decode cX7_gainOf 136 = .ok (.ireturn, 1) := by decide +kernel
theorem dX7_gainOf_137 : decode cX7_gainOf 137 = .ok (.aload_n 0, 1) := by decide +kernel
theorem dX7_gainOf_138 : decode cX7_gainOf 138 = .ok (.getfield 12, 3) := by decide +kernel
theorem dX7_gainOf_141 : decode cX7_gainOf 141 = .ok (.getfield 109, 3) := by decide +kernel
theorem dX7_gainOf_144 : decode cX7_gainOf 144 = .ok (.iload_n 1, 1) := by decide +kernel
theorem dX7_gainOf_145 : decode cX7_gainOf 145 = .ok (.iaload, 1) := by decide +kernel
theorem dX7_gainOf_146 : decode cX7_gainOf 146 = .ok (.aload_n 0, 1) := by decide +kernel
theorem dX7_gainOf_147 : decode cX7_gainOf 147 = .ok (.getfield 18, 3) := by decide +kernel
theorem dX7_gainOf_150 : decode cX7_gainOf 150 = .ok (.getfield 109, 3) := by decide +kernel
theorem dX7_gainOf_153 : decode cX7_gainOf 153 = .ok (.iload_n 2, 1) := by decide +kernel
theorem dX7_gainOf_154 : decode cX7_gainOf 154 = .ok (.iaload, 1) := by decide +kernel
theorem dX7_gainOf_155 : decode cX7_gainOf 155 = .ok (.iadd, 1) := by decide +kernel
theorem dX7_gainOf_156 : decode cX7_gainOf 156 = .ok (.iload 5, 2) := by decide +kernel
theorem dX7_gainOf_158 : decode cX7_gainOf 158 = .ok (.iadd, 1) := by decide +kernel
theorem dX7_gainOf_159 : decode cX7_gainOf 159 = .ok (.iload 7, 2) := by decide +kernel
theorem dX7_gainOf_161 : decode cX7_gainOf 161 = .ok (.iadd, 1) := by decide +kernel
theorem dX7_gainOf_162 : decode cX7_gainOf 162 = .ok (.iload 8, 2) := by decide +kernel
theorem dX7_gainOf_164 : decode cX7_gainOf 164 = .ok (.iadd, 1) := by decide +kernel
theorem dX7_gainOf_165 : decode cX7_gainOf 165 = .ok (.ireturn, 1) := by decide +kernel
theorem dX8_init_0 : decode cX8_init 0 = .ok (.aload_n 0, 1) := by decide +kernel
theorem dX8_init_1 : decode cX8_init 1 = .ok (.invokespecial 3, 3) := by decide +kernel
theorem dX8_init_4 : decode cX8_init 4 = .ok (.aload_n 0, 1) := by decide +kernel
theorem dX8_init_5 : decode cX8_init 5 = .ok (.sipush 512, 3) := by decide +kernel
theorem dX8_init_8 : decode cX8_init 8 = .ok (.newarray .int, 2) := by decide +kernel
theorem dX8_init_10 : decode cX8_init 10 = .ok (.putfield 9, 3) := by decide +kernel
theorem dX8_init_13 : decode cX8_init 13 = .ok (.aload_n 0, 1) := by decide +kernel
theorem dX8_init_14 : decode cX8_init 14 = .ok (.sipush 512, 3) := by decide +kernel
theorem dX8_init_17 : decode cX8_init 17 = .ok (.newarray .int, 2) := by decide +kernel
theorem dX8_init_19 : decode cX8_init 19 = .ok (.putfield 15, 3) := by decide +kernel
theorem dX8_init_22 : decode cX8_init 22 = .ok (.aload_n 0, 1) := by decide +kernel
theorem dX8_init_23 : decode cX8_init 23 = .ok (.new 18, 3) := by decide +kernel
theorem dX8_init_26 : decode cX8_init 26 = .ok (.dup, 1) := by decide +kernel
theorem dX8_init_27 : decode cX8_init 27 = .ok (.bipush 16, 2) := by decide +kernel
theorem dX8_init_29 : decode cX8_init 29 = .ok (.invokespecial 20, 3) := by decide +kernel
theorem dX8_init_32 : decode cX8_init 32 = .ok (.putfield 23, 3) := by decide +kernel
theorem dX8_init_35 : decode cX8_init 35 = .ok (.aload_n 0, 1) := by decide +kernel
theorem dX8_init_36 : decode cX8_init 36 = .ok (.new 18, 3) := by decide +kernel
theorem dX8_init_39 : decode cX8_init 39 = .ok (.dup, 1) := by decide +kernel
theorem dX8_init_40 : decode cX8_init 40 = .ok (.bipush 32, 2) := by decide +kernel
theorem dX8_init_42 : decode cX8_init 42 = .ok (.invokespecial 20, 3) := by decide +kernel
theorem dX8_init_45 : decode cX8_init 45 = .ok (.putfield 27, 3) := by decide +kernel
theorem dX8_init_48 : decode cX8_init 48 = .ok (.iconst 0, 1) := by decide +kernel
theorem dX8_init_49 : decode cX8_init 49 = .ok (.istore_n 1, 1) := by decide +kernel
theorem dX8_init_50 : decode cX8_init 50 = .ok (.iload_n 1, 1) := by decide +kernel
theorem dX8_init_51 : decode cX8_init 51 = .ok (.sipush 512, 3) := by decide +kernel
theorem dX8_init_54 : decode cX8_init 54 = .ok (.if_icmp .ge 24, 3) := by decide +kernel
theorem dX8_init_57 : decode cX8_init 57 = .ok (.aload_n 0, 1) := by decide +kernel
theorem dX8_init_58 : decode cX8_init 58 = .ok (.getfield 9, 3) := by decide +kernel
theorem dX8_init_61 : decode cX8_init 61 = .ok (.iload_n 1, 1) := by decide +kernel
theorem dX8_init_62 : decode cX8_init 62 = .ok (.bipush 95, 2) := by decide +kernel
theorem dX8_init_64 : decode cX8_init 64 = .ok (.iastore, 1) := by decide +kernel
theorem dX8_init_65 : decode cX8_init 65 = .ok (.aload_n 0, 1) := by decide +kernel
theorem dX8_init_66 : decode cX8_init 66 = .ok (.getfield 15, 3) := by decide +kernel
theorem dX8_init_69 : decode cX8_init 69 = .ok (.iload_n 1, 1) := by decide +kernel
theorem dX8_init_70 : decode cX8_init 70 = .ok (.iconst (-1), 1) := by decide +kernel
theorem dX8_init_71 : decode cX8_init 71 = .ok (.iastore, 1) := by decide +kernel
theorem dX8_init_72 : decode cX8_init 72 = .ok (.iinc 1 1, 3) := by decide +kernel
theorem dX8_init_75 : decode cX8_init 75 = .ok (.goto (-25), 3) := by decide +kernel
theorem dX8_init_78 : decode cX8_init 78 = .ok (.return_, 1) := by decide +kernel
theorem dX8_isInside_0 : decode cX8_isInside 0 = .ok (.iload_n 0, 1) := by decide +kernel
theorem dX8_isInside_1 : decode cX8_isInside 1 = .ok (.ifCond .lt 23, 3) := by decide +kernel
theorem dX8_isInside_4 : decode cX8_isInside 4 = .ok (.iload_n 0, 1) := by decide +kernel
theorem dX8_isInside_5 : decode cX8_isInside 5 = .ok (.bipush 16, 2) := by decide +kernel
theorem dX8_isInside_7 : decode cX8_isInside 7 = .ok (.if_icmp .ge 17, 3) := by decide +kernel
theorem dX8_isInside_10 : decode cX8_isInside 10 = .ok (.iload_n 1, 1) := by decide +kernel
theorem dX8_isInside_11 : decode cX8_isInside 11 = .ok (.ifCond .lt 13, 3) := by decide +kernel
theorem dX8_isInside_14 : decode cX8_isInside 14 = .ok (.iload_n 1, 1) := by decide +kernel
theorem dX8_isInside_15 : decode cX8_isInside 15 = .ok (.bipush 32, 2) := by decide +kernel
theorem dX8_isInside_17 : decode cX8_isInside 17 = .ok (.if_icmp .ge 7, 3) := by decide +kernel
theorem dX8_isInside_20 : decode cX8_isInside 20 = .ok (.iconst 1, 1) := by decide +kernel
theorem dX8_isInside_21 : decode cX8_isInside 21 = .ok (.goto 4, 3) := by decide +kernel
theorem dX8_isInside_24 : decode cX8_isInside 24 = .ok (.iconst 0, 1) := by decide +kernel
theorem dX8_isInside_25 : decode cX8_isInside 25 = .ok (.ireturn, 1) := by decide +kernel
theorem dX8_signAt_0 : decode cX8_signAt 0 = .ok (.iload_n 1, 1) := by decide +kernel
theorem dX8_signAt_1 : decode cX8_signAt 1 = .ok (.ifCond .lt 19, 3) := by decide +kernel
theorem dX8_signAt_4 : decode cX8_signAt 4 = .ok (.iload_n 1, 1) := by decide +kernel
theorem dX8_signAt_5 : decode cX8_signAt 5 = .ok (.bipush 16, 2) := by decide +kernel
theorem dX8_signAt_7 : decode cX8_signAt 7 = .ok (.if_icmp .ge 13, 3) := by decide +kernel
theorem dX8_signAt_10 : decode cX8_signAt 10 = .ok (.iload_n 2, 1) := by decide +kernel
theorem dX8_signAt_11 : decode cX8_signAt 11 = .ok (.ifCond .lt 9, 3) := by decide +kernel
theorem dX8_signAt_14 : decode cX8_signAt 14 = .ok (.iload_n 2, 1) := by decide +kernel
theorem dX8_signAt_15 : decode cX8_signAt 15 = .ok (.bipush 32, 2) := by decide +kernel
theorem dX8_signAt_17 : decode cX8_signAt 17 = .ok (.if_icmp .lt 6, 3) := by decide +kernel
theorem dX8_signAt_20 : decode cX8_signAt 20 = .ok (.bipush 95, 2) := by decide +kernel
theorem dX8_signAt_22 : decode cX8_signAt 22 = .ok (.ireturn, 1) := by decide +kernel
theorem dX8_signAt_23 : decode cX8_signAt 23 = .ok (.aload_n 0, 1) := by decide +kernel
theorem dX8_signAt_24 : decode cX8_signAt 24 = .ok (.getfield 9, 3) := by decide +kernel
theorem dX8_signAt_27 : decode cX8_signAt 27 = .ok (.iload_n 1, 1) := by decide +kernel
theorem dX8_signAt_28 : decode cX8_signAt 28 = .ok (.bipush 32, 2) := by decide +kernel
theorem dX8_signAt_30 : decode cX8_signAt 30 = .ok (.imul, 1) := by decide +kernel
theorem dX8_signAt_31 : decode cX8_signAt 31 = .ok (.iload_n 2, 1) := by decide +kernel
theorem dX8_signAt_32 : decode cX8_signAt 32 = .ok (.iadd, 1) := by decide +kernel
theorem dX8_signAt_33 : decode cX8_signAt 33 = .ok (.iaload, 1) := by decide +kernel
theorem dX8_signAt_34 : decode cX8_signAt 34 = .ok (.ireturn, 1) := by decide +kernel
theorem dX8_ownerAt_0 : decode cX8_ownerAt 0 = .ok (.iload_n 1, 1) := by decide +kernel
theorem dX8_ownerAt_1 : decode cX8_ownerAt 1 = .ok (.iload_n 2, 1) := by decide +kernel
theorem dX8_ownerAt_2 : decode cX8_ownerAt 2 = .ok (.invokestatic 30, 3) := by decide +kernel
theorem dX8_ownerAt_5 : decode cX8_ownerAt 5 = .ok (.ifCond .eq 17, 3) := by decide +kernel
theorem dX8_ownerAt_8 : decode cX8_ownerAt 8 = .ok (.aload_n 0, 1) := by decide +kernel
theorem dX8_ownerAt_9 : decode cX8_ownerAt 9 = .ok (.getfield 15, 3) := by decide +kernel
theorem dX8_ownerAt_12 : decode cX8_ownerAt 12 = .ok (.iload_n 1, 1) := by decide +kernel
theorem dX8_ownerAt_13 : decode cX8_ownerAt 13 = .ok (.bipush 32, 2) := by decide +kernel
theorem dX8_ownerAt_15 : decode cX8_ownerAt 15 = .ok (.imul, 1) := by decide +kernel
theorem dX8_ownerAt_16 : decode cX8_ownerAt 16 = .ok (.iload_n 2, 1) := by decide +kernel
theorem dX8_ownerAt_17 : decode cX8_ownerAt 17 = .ok (.iadd, 1) := by decide +kernel
theorem dX8_ownerAt_18 : decode cX8_ownerAt 18 = .ok (.iaload, 1) := by decide +kernel
theorem dX8_ownerAt_19 : decode cX8_ownerAt 19 = .ok (.goto 4, 3) := by decide +kernel
theorem dX8_ownerAt_22 : decode cX8_ownerAt 22 = .ok (.iconst (-1), 1) := by decide +kernel
theorem dX8_ownerAt_23 : decode cX8_ownerAt 23 = .ok (.ireturn, 1) := by decide +kernel
theorem dX8_hasRoom_0 : decode cX8_hasRoom 0 = .ok (.iload_n 2, 1) := by decide +kernel
theorem dX8_hasRoom_1 : decode cX8_hasRoom 1 = .ok (.bipush (-5), 2) := by decide +kernel
theorem dX8_hasRoom_3 : decode cX8_hasRoom 3 = .ok (.if_icmp .le 21, 3) := by decide +kernel
theorem dX8_hasRoom_6 : decode cX8_hasRoom 6 = .ok (.iload_n 2, 1) := by decide +kernel
theorem dX8_hasRoom_7 : decode cX8_hasRoom 7 = .ok (.bipush 16, 2) := by decide +kernel
theorem dX8_hasRoom_9 : decode cX8_hasRoom 9 = .ok (.if_icmp .ge 15, 3) := by decide +kernel
theorem dX8_hasRoom_12 : decode cX8_hasRoom 12 = .ok (.iload_n 3, 1) := by decide +kernel
theorem dX8_hasRoom_13 : decode cX8_hasRoom 13 = .ok (.bipush (-10), 2) := by decide +kernel
theorem dX8_hasRoom_15 : decode cX8_hasRoom 15 = .ok (.if_icmp .le 9, 3) := by decide +kernel
theorem dX8_hasRoom_18 : decode cX8_hasRoom 18 = .ok (.iload_n 3, 1) := by decide +kernel
theorem dX8_hasRoom_19 : decode cX8_hasRoom 19 = .ok (.bipush 32, 2) := by decide +kernel
theorem dX8_hasRoom_21 : decode cX8_hasRoom 21 = .ok (.if_icmp .lt 5, 3) := by decide +kernel
end
section
theorem dX8_hasRoom_24 : decode cX8_hasRoom 24 = .ok (.iconst 0, 1) := by decide +kernel
theorem dX8_hasRoom_25 : decode cX8_hasRoom 25 = .ok (.ireturn, 1) := by decide +kernel
theorem dX8_hasRoom_26 : decode cX8_hasRoom 26 = .ok (.iconst 0, 1) := by decide +kernel
theorem dX8_hasRoom_27 : decode cX8_hasRoom 27 = .ok (.istore 4, 2) := by decide +kernel
theorem dX8_hasRoom_29 : decode cX8_hasRoom 29 = .ok (.iload 4, 2) := by decide +kernel
theorem dX8_hasRoom_31 : decode cX8_hasRoom 31 = .ok (.aload_n 1, 1) := by decide +kernel
theorem dX8_hasRoom_32 : decode cX8_hasRoom 32 = .ok (.getfield 34, 3) := by decide +kernel
theorem dX8_hasRoom_35 : decode cX8_hasRoom 35 = .ok (.if_icmp .ge 60, 3) := by decide +kernel
theorem dX8_hasRoom_38 : decode cX8_hasRoom 38 = .ok (.iload_n 2, 1) := by decide +kernel
theorem dX8_hasRoom_39 : decode cX8_hasRoom 39 = .ok (.aload_n 1, 1) := by decide +kernel
theorem dX8_hasRoom_40 : decode cX8_hasRoom 40 = .ok (.getfield 40, 3) := by decide +kernel
theorem dX8_hasRoom_43 : decode cX8_hasRoom 43 = .ok (.iload 4, 2) := by decide +kernel
theorem dX8_hasRoom_45 : decode cX8_hasRoom 45 = .ok (.iaload, 1) := by decide +kernel
theorem dX8_hasRoom_46 : decode cX8_hasRoom 46 = .ok (.iadd, 1) := by decide +kernel
theorem dX8_hasRoom_47 : decode cX8_hasRoom 47 = .ok (.istore 5, 2) := by decide +kernel
theorem dX8_hasRoom_49 : decode cX8_hasRoom 49 = .ok (.iload_n 3, 1) := by decide +kernel
theorem dX8_hasRoom_50 : decode cX8_hasRoom 50 = .ok (.aload_n 1, 1) := by decide +kernel
theorem dX8_hasRoom_51 : decode cX8_hasRoom 51 = .ok (.getfield 43, 3) := by decide +kernel
theorem dX8_hasRoom_54 : decode cX8_hasRoom 54 = .ok (.iload 4, 2) := by decide +kernel
theorem dX8_hasRoom_56 : decode cX8_hasRoom 56 = .ok (.iaload, 1) := by decide +kernel
theorem dX8_hasRoom_57 : decode cX8_hasRoom 57 = .ok (.iadd, 1) := by decide +kernel
theorem dX8_hasRoom_58 : decode cX8_hasRoom 58 = .ok (.istore 6, 2) := by decide +kernel
theorem dX8_hasRoom_60 : decode cX8_hasRoom 60 = .ok (.iload 5, 2) := by decide +kernel
theorem dX8_hasRoom_62 : decode cX8_hasRoom 62 = .ok (.iload 6, 2) := by decide +kernel
theorem dX8_hasRoom_64 : decode cX8_hasRoom 64 = .ok (.invokestatic 30, 3) := by decide +kernel
theorem dX8_hasRoom_67 : decode cX8_hasRoom 67 = .ok (.ifCond .eq 20, 3) := by decide +kernel
theorem dX8_hasRoom_70 : decode cX8_hasRoom 70 = .ok (.aload_n 0, 1) := by decide +kernel
theorem dX8_hasRoom_71 : decode cX8_hasRoom 71 = .ok (.getfield 15, 3) := by decide +kernel
theorem dX8_hasRoom_74 : decode cX8_hasRoom 74 = .ok (.iload 5, 2) := by decide +kernel
theorem dX8_hasRoom_76 : decode cX8_hasRoom 76 = .ok (.bipush 32, 2) := by decide +kernel
theorem dX8_hasRoom_78 : decode cX8_hasRoom 78 = .ok (.imul, 1) := by decide +kernel
theorem dX8_hasRoom_79 : decode cX8_hasRoom 79 = .ok (.iload 6, 2) := by decide +kernel
theorem dX8_hasRoom_81 : decode cX8_hasRoom 81 = .ok (.iadd, 1) := by decide +kernel
theorem dX8_hasRoom_82 : decode cX8_hasRoom 82 = .ok (.iaload, 1) := by decide +kernel
theorem dX8_hasRoom_83 : decode cX8_hasRoom 83 = .ok (.iconst (-1), 1) := by decide +kernel
theorem dX8_hasRoom_84 : decode cX8_hasRoom 84 = .ok (.if_icmp .eq 5, 3) := by decide +kernel
theorem dX8_hasRoom_87 : decode cX8_hasRoom 87 = .ok (.iconst 0, 1) := by decide +kernel
theorem dX8_hasRoom_88 : decode cX8_hasRoom 88 = .ok (.ireturn, 1) := by decide +kernel
theorem dX8_hasRoom_89 : decode cX8_hasRoom 89 = .ok (.iinc 4 1, 3) := by decide +kernel
theorem dX8_hasRoom_92 : decode cX8_hasRoom 92 = .ok (.goto (-63), 3) := by decide +kernel
theorem dX8_hasRoom_95 : decode cX8_hasRoom 95 = .ok (.iconst 1, 1) := by decide +kernel
theorem dX8_hasRoom_96 : decode cX8_hasRoom 96 = .ok (.ireturn, 1) := by decide +kernel
theorem dX8_fibreWorth_0 : decode cX8_fibreWorth 0 = .ok (.aload_n 0, 1) := by decide +kernel
theorem dX8_fibreWorth_1 : decode cX8_fibreWorth 1 = .ok (.getfield 23, 3) := by decide +kernel
theorem dX8_fibreWorth_4 : decode cX8_fibreWorth 4 = .ok (.aload_n 1, 1) := by decide +kernel
theorem dX8_fibreWorth_5 : decode cX8_fibreWorth 5 = .ok (.getfield 46, 3) := by decide +kernel
theorem dX8_fibreWorth_8 : decode cX8_fibreWorth 8 = .ok (.iload_n 2, 1) := by decide +kernel
theorem dX8_fibreWorth_9 : decode cX8_fibreWorth 9 = .ok (.invokevirtual 49, 3) := by decide +kernel
theorem dX8_fibreWorth_12 : decode cX8_fibreWorth 12 = .ok (.istore 4, 2) := by decide +kernel
theorem dX8_fibreWorth_14 : decode cX8_fibreWorth 14 = .ok (.aload_n 0, 1) := by decide +kernel
theorem dX8_fibreWorth_15 : decode cX8_fibreWorth 15 = .ok (.getfield 27, 3) := by decide +kernel
theorem dX8_fibreWorth_18 : decode cX8_fibreWorth 18 = .ok (.aload_n 1, 1) := by decide +kernel
theorem dX8_fibreWorth_19 : decode cX8_fibreWorth 19 = .ok (.getfield 53, 3) := by decide +kernel
theorem dX8_fibreWorth_22 : decode cX8_fibreWorth 22 = .ok (.iload_n 3, 1) := by decide +kernel
theorem dX8_fibreWorth_23 : decode cX8_fibreWorth 23 = .ok (.invokevirtual 49, 3) := by decide +kernel
theorem dX8_fibreWorth_26 : decode cX8_fibreWorth 26 = .ok (.istore 5, 2) := by decide +kernel
theorem dX8_fibreWorth_28 : decode cX8_fibreWorth 28 = .ok (.iload 4, 2) := by decide +kernel
theorem dX8_fibreWorth_30 : decode cX8_fibreWorth 30 = .ok (.iconst (-1), 1) := by decide +kernel
theorem dX8_fibreWorth_31 : decode cX8_fibreWorth 31 = .ok (.if_icmp .eq 9, 3) := by decide +kernel
theorem dX8_fibreWorth_34 : decode cX8_fibreWorth 34 = .ok (.iload 5, 2) := by decide +kernel
theorem dX8_fibreWorth_36 : decode cX8_fibreWorth 36 = .ok (.iconst (-1), 1) := by decide +kernel
theorem dX8_fibreWorth_37 : decode cX8_fibreWorth 37 = .ok (.if_icmp .ne 5, 3) := by decide +kernel
theorem dX8_fibreWorth_40 : decode cX8_fibreWorth 40 = .ok (.iconst (-1), 1) := by decide +kernel
theorem dX8_fibreWorth_41 : decode cX8_fibreWorth 41 = .ok (.ireturn, 1) := by decide +kernel
theorem dX8_fibreWorth_42 : decode cX8_fibreWorth 42 = .ok (.iload 4, 2) := by decide +kernel
theorem dX8_fibreWorth_44 : decode cX8_fibreWorth 44 = .ok (.iload 5, 2) := by decide +kernel
theorem dX8_fibreWorth_46 : decode cX8_fibreWorth 46 = .ok (.iadd, 1) := by decide +kernel
theorem dX8_fibreWorth_47 : decode cX8_fibreWorth 47 = .ok (.ireturn, 1) := by decide +kernel
theorem dX8_sidesOf_0 : decode cX8_sidesOf 0 = .ok (.iconst 0, 1) := by decide +kernel
theorem dX8_sidesOf_1 : decode cX8_sidesOf 1 = .ok (.istore 4, 2) := by decide +kernel
theorem dX8_sidesOf_3 : decode cX8_sidesOf 3 = .ok (.iconst 0, 1) := by decide +kernel
theorem dX8_sidesOf_4 : decode cX8_sidesOf 4 = .ok (.istore 5, 2) := by decide +kernel
theorem dX8_sidesOf_6 : decode cX8_sidesOf 6 = .ok (.iload 5, 2) := by decide +kernel
theorem dX8_sidesOf_8 : decode cX8_sidesOf 8 = .ok (.aload_n 1, 1) := by decide +kernel
theorem dX8_sidesOf_9 : decode cX8_sidesOf 9 = .ok (.getfield 34, 3) := by decide +kernel
theorem dX8_sidesOf_12 : decode cX8_sidesOf 12 = .ok (.if_icmp .ge 79, 3) := by decide +kernel
theorem dX8_sidesOf_15 : decode cX8_sidesOf 15 = .ok (.iload_n 2, 1) := by decide +kernel
theorem dX8_sidesOf_16 : decode cX8_sidesOf 16 = .ok (.aload_n 1, 1) := by decide +kernel
theorem dX8_sidesOf_17 : decode cX8_sidesOf 17 = .ok (.getfield 40, 3) := by decide +kernel
theorem dX8_sidesOf_20 : decode cX8_sidesOf 20 = .ok (.iload 5, 2) := by decide +kernel
theorem dX8_sidesOf_22 : decode cX8_sidesOf 22 = .ok (.iaload, 1) := by decide +kernel
theorem dX8_sidesOf_23 : decode cX8_sidesOf 23 = .ok (.iadd, 1) := by decide +kernel
theorem dX8_sidesOf_24 : decode cX8_sidesOf 24 = .ok (.istore 6, 2) := by decide +kernel
theorem dX8_sidesOf_26 : decode cX8_sidesOf 26 = .ok (.iload_n 3, 1) := by decide +kernel
theorem dX8_sidesOf_27 : decode cX8_sidesOf 27 = .ok (.aload_n 1, 1) := by decide +kernel
theorem dX8_sidesOf_28 : decode cX8_sidesOf 28 = .ok (.getfield 43, 3) := by decide +kernel
theorem dX8_sidesOf_31 : decode cX8_sidesOf 31 = .ok (.iload 5, 2) := by decide +kernel
theorem dX8_sidesOf_33 : decode cX8_sidesOf 33 = .ok (.iaload, 1) := by decide +kernel
theorem dX8_sidesOf_34 : decode cX8_sidesOf 34 = .ok (.iadd, 1) := by decide +kernel
theorem dX8_sidesOf_35 : decode cX8_sidesOf 35 = .ok (.istore 7, 2) := by decide +kernel
theorem dX8_sidesOf_37 : decode cX8_sidesOf 37 = .ok (.iload 4, 2) := by decide +kernel
theorem dX8_sidesOf_39 : decode cX8_sidesOf 39 = .ok (.aload_n 0, 1) := by decide +kernel
theorem dX8_sidesOf_40 : decode cX8_sidesOf 40 = .ok (.iload 6, 2) := by decide +kernel
theorem dX8_sidesOf_42 : decode cX8_sidesOf 42 = .ok (.iconst 1, 1) := by decide +kernel
theorem dX8_sidesOf_43 : decode cX8_sidesOf 43 = .ok (.isub, 1) := by decide +kernel
theorem dX8_sidesOf_44 : decode cX8_sidesOf 44 = .ok (.iload 7, 2) := by decide +kernel
theorem dX8_sidesOf_46 : decode cX8_sidesOf 46 = .ok (.invokevirtual 55, 3) := by decide +kernel
theorem dX8_sidesOf_49 : decode cX8_sidesOf 49 = .ok (.aload_n 0, 1) := by decide +kernel
theorem dX8_sidesOf_50 : decode cX8_sidesOf 50 = .ok (.iload 6, 2) := by decide +kernel
theorem dX8_sidesOf_52 : decode cX8_sidesOf 52 = .ok (.iconst 1, 1) := by decide +kernel
theorem dX8_sidesOf_53 : decode cX8_sidesOf 53 = .ok (.iadd, 1) := by decide +kernel
theorem dX8_sidesOf_54 : decode cX8_sidesOf 54 = .ok (.iload 7, 2) := by decide +kernel
theorem dX8_sidesOf_56 : decode cX8_sidesOf 56 = .ok (.invokevirtual 55, 3) := by decide +kernel
theorem dX8_sidesOf_59 : decode cX8_sidesOf 59 = .ok (.iadd, 1) := by decide +kernel
theorem dX8_sidesOf_60 : decode cX8_sidesOf 60 = .ok (.aload_n 0, 1) := by decide +kernel
theorem dX8_sidesOf_61 : decode cX8_sidesOf 61 = .ok (.iload 6, 2) := by decide +kernel
theorem dX8_sidesOf_63 : decode cX8_sidesOf 63 = .ok (.iload 7, 2) := by decide +kernel
theorem dX8_sidesOf_65 : decode cX8_sidesOf 65 = .ok (.iconst 1, 1) := by decide +kernel
theorem dX8_sidesOf_66 : decode cX8_sidesOf 66 = .ok (.isub, 1) := by decide +kernel
theorem dX8_sidesOf_67 : decode cX8_sidesOf 67 = .ok (.invokevirtual 55, 3) := by decide +kernel
theorem dX8_sidesOf_70 : decode cX8_sidesOf 70 = .ok (.iadd, 1) := by decide +kernel
theorem dX8_sidesOf_71 : decode cX8_sidesOf 71 = .ok (.aload_n 0, 1) := by decide +kernel
theorem dX8_sidesOf_72 : decode cX8_sidesOf 72 = .ok (.iload 6, 2) := by decide +kernel
theorem dX8_sidesOf_74 : decode cX8_sidesOf 74 = .ok (.iload 7, 2) := by decide +kernel
theorem dX8_sidesOf_76 : decode cX8_sidesOf 76 = .ok (.iconst 1, 1) := by decide +kernel
theorem dX8_sidesOf_77 : decode cX8_sidesOf 77 = .ok (.iadd, 1) := by decide +kernel
theorem dX8_sidesOf_78 : decode cX8_sidesOf 78 = .ok (.invokevirtual 55, 3) := by decide +kernel
theorem dX8_sidesOf_81 : decode cX8_sidesOf 81 = .ok (.iadd, 1) := by decide +kernel
theorem dX8_sidesOf_82 : decode cX8_sidesOf 82 = .ok (.iadd, 1) := by decide +kernel
theorem dX8_sidesOf_83 : decode cX8_sidesOf 83 = .ok (.istore 4, 2) := by decide +kernel
theorem dX8_sidesOf_85 : decode cX8_sidesOf 85 = .ok (.iinc 5 1, 3) := by decide +kernel
theorem dX8_sidesOf_88 : decode cX8_sidesOf 88 = .ok (.goto (-82), 3) := by decide +kernel
theorem dX8_sidesOf_91 : decode cX8_sidesOf 91 = .ok (.iload 4, 2) := by decide +kernel
theorem dX8_sidesOf_93 : decode cX8_sidesOf 93 = .ok (.ireturn, 1) := by decide +kernel
theorem dX8_taken_0 : decode cX8_taken 0 = .ok (.aload_n 0, 1) := by decide +kernel
theorem dX8_taken_1 : decode cX8_taken 1 = .ok (.iload_n 1, 1) := by decide +kernel
theorem dX8_taken_2 : decode cX8_taken 2 = .ok (.iload_n 2, 1) := by decide +kernel
theorem dX8_taken_3 : decode cX8_taken 3 = .ok (.invokevirtual 59, 3) := by decide +kernel
theorem dX8_taken_6 : decode cX8_taken 6 = .ok (.iconst (-1), 1) := by decide +kernel
theorem dX8_taken_7 : decode cX8_taken 7 = .ok (.if_icmp .ne 7, 3) := by decide +kernel
theorem dX8_taken_10 : decode cX8_taken 10 = .ok (.iconst 0, 1) := by decide +kernel
theorem dX8_taken_11 : decode cX8_taken 11 = .ok (.goto 4, 3) := by decide +kernel
theorem dX8_taken_14 : decode cX8_taken 14 = .ok (.iconst 1, 1) := by decide +kernel
theorem dX8_taken_15 : decode cX8_taken 15 = .ok (.ireturn, 1) := by decide +kernel
theorem dX8_allRunsCan_0 : decode cX8_allRunsCan 0 = .ok (.iconst 0, 1) := by decide +kernel
theorem dX8_allRunsCan_1 : decode cX8_allRunsCan 1 = .ok (.istore_n 2, 1) := by decide +kernel
theorem dX8_allRunsCan_2 : decode cX8_allRunsCan 2 = .ok (.iload_n 2, 1) := by decide +kernel
theorem dX8_allRunsCan_3 : decode cX8_allRunsCan 3 = .ok (.bipush 16, 2) := by decide +kernel
theorem dX8_allRunsCan_5 : decode cX8_allRunsCan 5 = .ok (.if_icmp .ge 23, 3) := by decide +kernel
theorem dX8_allRunsCan_8 : decode cX8_allRunsCan 8 = .ok (.aload_n 0, 1) := by decide +kernel
theorem dX8_allRunsCan_9 : decode cX8_allRunsCan 9 = .ok (.iload_n 2, 1) := by decide +kernel
theorem dX8_allRunsCan_10 : decode cX8_allRunsCan 10 = .ok (.iconst 0, 1) := by decide +kernel
theorem dX8_allRunsCan_11 : decode cX8_allRunsCan 11 = .ok (.bipush 31, 2) := by decide +kernel
theorem dX8_allRunsCan_13 : decode cX8_allRunsCan 13 = .ok (.aload_n 1, 1) := by decide +kernel
theorem dX8_allRunsCan_14 : decode cX8_allRunsCan 14 = .ok (.invokevirtual 62, 3) := by decide +kernel
theorem dX8_allRunsCan_17 : decode cX8_allRunsCan 17 = .ok (.ifCond .ne 5, 3) := by decide +kernel
theorem dX8_allRunsCan_20 : decode cX8_allRunsCan 20 = .ok (.iconst 0, 1) := by decide +kernel
theorem dX8_allRunsCan_21 : decode cX8_allRunsCan 21 = .ok (.ireturn, 1) := by decide +kernel
theorem dX8_allRunsCan_22 : decode cX8_allRunsCan 22 = .ok (.iinc 2 1, 3) := by decide +kernel
theorem dX8_allRunsCan_25 : decode cX8_allRunsCan 25 = .ok (.goto (-23), 3) := by decide +kernel
theorem dX8_allRunsCan_28 : decode cX8_allRunsCan 28 = .ok (.iconst 1, 1) := by decide +kernel
theorem dX8_allRunsCan_29 : decode cX8_allRunsCan 29 = .ok (.ireturn, 1) := by decide +kernel
theorem dX8_runsCanWith_0 : decode cX8_runsCanWith 0 = .ok (.aload 4, 2) := by decide +kernel
theorem dX8_runsCanWith_2 : decode cX8_runsCanWith 2 = .ok (.getfield 66, 3) := by decide +kernel
theorem dX8_runsCanWith_5 : decode cX8_runsCanWith 5 = .ok (.ifCond .ne 5, 3) := by decide +kernel
theorem dX8_runsCanWith_8 : decode cX8_runsCanWith 8 = .ok (.iconst 1, 1) := by decide +kernel
theorem dX8_runsCanWith_9 : decode cX8_runsCanWith 9 = .ok (.ireturn, 1) := by decide +kernel
theorem dX8_runsCanWith_10 : decode cX8_runsCanWith 10 = .ok (.aload_n 0, 1) := by decide +kernel
theorem dX8_runsCanWith_11 : decode cX8_runsCanWith 11 = .ok (.aload_n 1, 1) := by decide +kernel
theorem dX8_runsCanWith_12 : decode cX8_runsCanWith 12 = .ok (.iload_n 2, 1) := by decide +kernel
theorem dX8_runsCanWith_13 : decode cX8_runsCanWith 13 = .ok (.iload_n 3, 1) := by decide +kernel
theorem dX8_runsCanWith_14 : decode cX8_runsCanWith 14 = .ok (.invokevirtual 71, 3) := by decide +kernel
theorem dX8_runsCanWith_17 : decode cX8_runsCanWith 17 = .ok (.iconst 1, 1) := by decide +kernel
theorem dX8_runsCanWith_18 : decode cX8_runsCanWith 18 = .ok (.istore 5, 2) := by decide +kernel
theorem dX8_runsCanWith_20 : decode cX8_runsCanWith 20 = .ok (.iconst 0, 1) := by decide +kernel
theorem dX8_runsCanWith_21 : decode cX8_runsCanWith 21 = .ok (.istore 6, 2) := by decide +kernel
theorem dX8_runsCanWith_23 : decode cX8_runsCanWith 23 = .ok (.iload 6, 2) := by decide +kernel
theorem dX8_runsCanWith_25 : decode cX8_runsCanWith 25 = .ok (.iconst 5, 1) := by decide +kernel
theorem dX8_runsCanWith_26 : decode cX8_runsCanWith 26 = .ok (.if_icmp .ge 55, 3) := by decide +kernel
theorem dX8_runsCanWith_29 : decode cX8_runsCanWith 29 = .ok (.iload 5, 2) := by decide +kernel
theorem dX8_runsCanWith_31 : decode cX8_runsCanWith 31 = .ok (.ifCond .eq 50, 3) := by decide +kernel
theorem dX8_runsCanWith_34 : decode cX8_runsCanWith 34 = .ok (.aload_n 1, 1) := by decide +kernel
theorem dX8_runsCanWith_35 : decode cX8_runsCanWith 35 = .ok (.getfield 75, 3) := by decide +kernel
theorem dX8_runsCanWith_38 : decode cX8_runsCanWith 38 = .ok (.iload 6, 2) := by decide +kernel
theorem dX8_runsCanWith_40 : decode cX8_runsCanWith 40 = .ok (.iaload, 1) := by decide +kernel
theorem dX8_runsCanWith_41 : decode cX8_runsCanWith 41 = .ok (.iconst (-1), 1) := by decide +kernel
theorem dX8_runsCanWith_42 : decode cX8_runsCanWith 42 = .ok (.if_icmp .eq 33, 3) := by decide +kernel
theorem dX8_runsCanWith_45 : decode cX8_runsCanWith 45 = .ok (.aload_n 0, 1) := by decide +kernel
theorem dX8_runsCanWith_46 : decode cX8_runsCanWith 46 = .ok (.iload_n 2, 1) := by decide +kernel
theorem dX8_runsCanWith_47 : decode cX8_runsCanWith 47 = .ok (.iload 6, 2) := by decide +kernel
theorem dX8_runsCanWith_49 : decode cX8_runsCanWith 49 = .ok (.iadd, 1) := by decide +kernel
theorem dX8_runsCanWith_50 : decode cX8_runsCanWith 50 = .ok (.iload_n 3, 1) := by decide +kernel
theorem dX8_runsCanWith_51 : decode cX8_runsCanWith 51 = .ok (.aload_n 1, 1) := by decide +kernel
theorem dX8_runsCanWith_52 : decode cX8_runsCanWith 52 = .ok (.getfield 78, 3) := by decide +kernel
theorem dX8_runsCanWith_55 : decode cX8_runsCanWith 55 = .ok (.iload 6, 2) := by decide +kernel
theorem dX8_runsCanWith_57 : decode cX8_runsCanWith 57 = .ok (.iaload, 1) := by decide +kernel
theorem dX8_runsCanWith_58 : decode cX8_runsCanWith 58 = .ok (.iadd, 1) := by decide +kernel
theorem dX8_runsCanWith_59 : decode cX8_runsCanWith 59 = .ok (.iload_n 3, 1) := by decide +kernel
theorem dX8_runsCanWith_60 : decode cX8_runsCanWith 60 = .ok (.aload_n 1, 1) := by decide +kernel
theorem dX8_runsCanWith_61 : decode cX8_runsCanWith 61 = .ok (.getfield 75, 3) := by decide +kernel
theorem dX8_runsCanWith_64 : decode cX8_runsCanWith 64 = .ok (.iload 6, 2) := by decide +kernel
theorem dX8_runsCanWith_66 : decode cX8_runsCanWith 66 = .ok (.iaload, 1) := by decide +kernel
theorem dX8_runsCanWith_67 : decode cX8_runsCanWith 67 = .ok (.iadd, 1) := by decide +kernel
theorem dX8_runsCanWith_68 : decode cX8_runsCanWith 68 = .ok (.aload 4, 2) := by decide +kernel
theorem dX8_runsCanWith_70 : decode cX8_runsCanWith 70 = .ok (.invokevirtual 62, 3) := by decide +kernel
theorem dX8_runsCanWith_73 : decode cX8_runsCanWith 73 = .ok (.istore 5, 2) := by decide +kernel
theorem dX8_runsCanWith_75 : decode cX8_runsCanWith 75 = .ok (.iinc 6 1, 3) := by decide +kernel
theorem dX8_runsCanWith_78 : decode cX8_runsCanWith 78 = .ok (.goto (-55), 3) := by decide +kernel
theorem dX8_runsCanWith_81 : decode cX8_runsCanWith 81 = .ok (.aload_n 0, 1) := by decide +kernel
theorem dX8_runsCanWith_82 : decode cX8_runsCanWith 82 = .ok (.aload_n 1, 1) := by decide +kernel
theorem dX8_runsCanWith_83 : decode cX8_runsCanWith 83 = .ok (.iload_n 2, 1) := by decide +kernel
theorem dX8_runsCanWith_84 : decode cX8_runsCanWith 84 = .ok (.iload_n 3, 1) := by decide +kernel
theorem dX8_runsCanWith_85 : decode cX8_runsCanWith 85 = .ok (.invokevirtual 81, 3) := by decide +kernel
theorem dX8_runsCanWith_88 : decode cX8_runsCanWith 88 = .ok (.iload 5, 2) := by decide +kernel
theorem dX8_runsCanWith_90 : decode cX8_runsCanWith 90 = .ok (.ireturn, 1) := by decide +kernel
theorem dX8_runsCan_0 : decode cX8_runsCan 0 = .ok (.iconst 0, 1) := by decide +kernel
theorem dX8_runsCan_1 : decode cX8_runsCan 1 = .ok (.istore 5, 2) := by decide +kernel
theorem dX8_runsCan_3 : decode cX8_runsCan 3 = .ok (.aload_n 0, 1) := by decide +kernel
theorem dX8_runsCan_4 : decode cX8_runsCan 4 = .ok (.iload_n 1, 1) := by decide +kernel
theorem dX8_runsCan_5 : decode cX8_runsCan 5 = .ok (.iload_n 2, 1) := by decide +kernel
theorem dX8_runsCan_6 : decode cX8_runsCan 6 = .ok (.invokevirtual 84, 3) := by decide +kernel
theorem dX8_runsCan_9 : decode cX8_runsCan 9 = .ok (.istore 6, 2) := by decide +kernel
theorem dX8_runsCan_11 : decode cX8_runsCan 11 = .ok (.iload 6, 2) := by decide +kernel
theorem dX8_runsCan_13 : decode cX8_runsCan 13 = .ok (.bipush 32, 2) := by decide +kernel
theorem dX8_runsCan_15 : decode cX8_runsCan 15 = .ok (.if_icmp .gt 111, 3) := by decide +kernel
theorem dX8_runsCan_18 : decode cX8_runsCan 18 = .ok (.aload_n 0, 1) := by decide +kernel
theorem dX8_runsCan_19 : decode cX8_runsCan 19 = .ok (.iload_n 1, 1) := by decide +kernel
theorem dX8_runsCan_20 : decode cX8_runsCan 20 = .ok (.iload 6, 2) := by decide +kernel
theorem dX8_runsCan_22 : decode cX8_runsCan 22 = .ok (.invokevirtual 87, 3) := by decide +kernel
theorem dX8_runsCan_25 : decode cX8_runsCan 25 = .ok (.istore 7, 2) := by decide +kernel
theorem dX8_runsCan_27 : decode cX8_runsCan 27 = .ok (.iload 7, 2) := by decide +kernel
theorem dX8_runsCan_29 : decode cX8_runsCan 29 = .ok (.invokestatic 90, 3) := by decide +kernel
theorem dX8_runsCan_32 : decode cX8_runsCan 32 = .ok (.ifCond .eq 45, 3) := by decide +kernel
theorem dX8_runsCan_35 : decode cX8_runsCan 35 = .ok (.iload 5, 2) := by decide +kernel
theorem dX8_runsCan_37 : decode cX8_runsCan 37 = .ok (.ifCond .ne 27, 3) := by decide +kernel
theorem dX8_runsCan_40 : decode cX8_runsCan 40 = .ok (.aload 4, 2) := by decide +kernel
theorem dX8_runsCan_42 : decode cX8_runsCan 42 = .ok (.aload_n 0, 1) := by decide +kernel
theorem dX8_runsCan_43 : decode cX8_runsCan 43 = .ok (.iload_n 1, 1) := by decide +kernel
theorem dX8_runsCan_44 : decode cX8_runsCan 44 = .ok (.iload 6, 2) := by decide +kernel
theorem dX8_runsCan_46 : decode cX8_runsCan 46 = .ok (.iconst 1, 1) := by decide +kernel
theorem dX8_runsCan_47 : decode cX8_runsCan 47 = .ok (.isub, 1) := by decide +kernel
theorem dX8_runsCan_48 : decode cX8_runsCan 48 = .ok (.invokevirtual 87, 3) := by decide +kernel
theorem dX8_runsCan_51 : decode cX8_runsCan 51 = .ok (.bipush 44, 2) := by decide +kernel
theorem dX8_runsCan_53 : decode cX8_runsCan 53 = .ok (.if_icmp .ne 7, 3) := by decide +kernel
theorem dX8_runsCan_56 : decode cX8_runsCan 56 = .ok (.iconst 1, 1) := by decide +kernel
theorem dX8_runsCan_57 : decode cX8_runsCan 57 = .ok (.goto 4, 3) := by decide +kernel
theorem dX8_runsCan_60 : decode cX8_runsCan 60 = .ok (.iconst 0, 1) := by decide +kernel
theorem dX8_runsCan_61 : decode cX8_runsCan 61 = .ok (.invokevirtual 94, 3) := by decide +kernel
theorem dX8_runsCan_64 : decode cX8_runsCan 64 = .ok (.iconst 1, 1) := by decide +kernel
theorem dX8_runsCan_65 : decode cX8_runsCan 65 = .ok (.istore 5, 2) := by decide +kernel
theorem dX8_runsCan_67 : decode cX8_runsCan 67 = .ok (.aload 4, 2) := by decide +kernel
theorem dX8_runsCan_69 : decode cX8_runsCan 69 = .ok (.iload 7, 2) := by decide +kernel
theorem dX8_runsCan_71 : decode cX8_runsCan 71 = .ok (.invokevirtual 98, 3) := by decide +kernel
theorem dX8_runsCan_74 : decode cX8_runsCan 74 = .ok (.goto 46, 3) := by decide +kernel
theorem dX8_runsCan_77 : decode cX8_runsCan 77 = .ok (.iload 5, 2) := by decide +kernel
theorem dX8_runsCan_79 : decode cX8_runsCan 79 = .ok (.ifCond .eq 30, 3) := by decide +kernel
theorem dX8_runsCan_82 : decode cX8_runsCan 82 = .ok (.aload 4, 2) := by decide +kernel
theorem dX8_runsCan_84 : decode cX8_runsCan 84 = .ok (.iload 7, 2) := by decide +kernel
theorem dX8_runsCan_86 : decode cX8_runsCan 86 = .ok (.bipush 44, 2) := by decide +kernel
theorem dX8_runsCan_88 : decode cX8_runsCan 88 = .ok (.if_icmp .ne 7, 3) := by decide +kernel
theorem dX8_runsCan_91 : decode cX8_runsCan 91 = .ok (.iconst 1, 1) := by decide +kernel
theorem dX8_runsCan_92 : decode cX8_runsCan 92 = .ok (.goto 4, 3) := by decide +kernel
theorem dX8_runsCan_95 : decode cX8_runsCan 95 = .ok (.iconst 0, 1) := by decide +kernel
theorem dX8_runsCan_96 : decode cX8_runsCan 96 = .ok (.invokevirtual 101, 3) := by decide +kernel
theorem dX8_runsCan_99 : decode cX8_runsCan 99 = .ok (.aload 4, 2) := by decide +kernel
theorem dX8_runsCan_101 : decode cX8_runsCan 101 = .ok (.invokevirtual 104, 3) := by decide +kernel
theorem dX8_runsCan_104 : decode cX8_runsCan 104 = .ok (.ifCond .ne 5, 3) := by decide +kernel
theorem dX8_runsCan_107 : decode cX8_runsCan 107 = .ok (.iconst 0, 1) := by decide +kernel
theorem dX8_runsCan_108 : decode cX8_runsCan 108 = .ok (.ireturn, 1) := by decide +kernel
theorem dX8_runsCan_109 : decode cX8_runsCan 109 = .ok (.iconst 0, 1) := by decide +kernel
theorem dX8_runsCan_110 : decode cX8_runsCan 110 = .ok (.istore 5, 2) := by decide +kernel
theorem dX8_runsCan_112 : decode cX8_runsCan 112 = .ok (.iload 6, 2) := by decide +kernel
theorem dX8_runsCan_114 : decode cX8_runsCan 114 = .ok (.iload_n 3, 1) := by decide +kernel
theorem dX8_runsCan_115 : decode cX8_runsCan 115 = .ok (.if_icmp .le 5, 3) := by decide +kernel
theorem dX8_runsCan_118 : decode cX8_runsCan 118 = .ok (.iconst 1, 1) := by decide +kernel
theorem dX8_runsCan_119 : decode cX8_runsCan 119 = .ok (.ireturn, 1) := by decide +kernel
theorem dX8_runsCan_120 : decode cX8_runsCan 120 = .ok (.iinc 6 1, 3) := by decide +kernel
theorem dX8_runsCan_123 : decode cX8_runsCan 123 = .ok (.goto (-112), 3) := by decide +kernel
theorem dX8_runsCan_126 : decode cX8_runsCan 126 = .ok (.iconst 1, 1) := by decide +kernel
theorem dX8_runsCan_127 : decode cX8_runsCan 127 = .ok (.ireturn, 1) := by decide +kernel
theorem dX8_startOfRun_0 : decode cX8_startOfRun 0 = .ok (.iload_n 2, 1) := by decide +kernel
theorem dX8_startOfRun_1 : decode cX8_startOfRun 1 = .ok (.istore_n 3, 1) := by decide +kernel
theorem dX8_startOfRun_2 : decode cX8_startOfRun 2 = .ok (.iload_n 3, 1) := by decide +kernel
theorem dX8_startOfRun_3 : decode cX8_startOfRun 3 = .ok (.ifCond .le 23, 3) := by decide +kernel
theorem dX8_startOfRun_6 : decode cX8_startOfRun 6 = .ok (.aload_n 0, 1) := by decide +kernel
theorem dX8_startOfRun_7 : decode cX8_startOfRun 7 = .ok (.iload_n 1, 1) := by decide +kernel
theorem dX8_startOfRun_8 : decode cX8_startOfRun 8 = .ok (.iload_n 3, 1) := by decide +kernel
theorem dX8_startOfRun_9 : decode cX8_startOfRun 9 = .ok (.iconst 1, 1) := by decide +kernel
theorem dX8_startOfRun_10 : decode cX8_startOfRun 10 = .ok (.isub, 1) := by decide +kernel
theorem dX8_startOfRun_11 : decode cX8_startOfRun 11 = .ok (.invokevirtual 87, 3) := by decide +kernel
theorem dX8_startOfRun_14 : decode cX8_startOfRun 14 = .ok (.invokestatic 90, 3) := by decide +kernel
theorem dX8_startOfRun_17 : decode cX8_startOfRun 17 = .ok (.ifCond .eq 9, 3) := by decide +kernel
theorem dX8_startOfRun_20 : decode cX8_startOfRun 20 = .ok (.iinc 3 (-1), 3) := by decide +kernel
theorem dX8_startOfRun_23 : decode cX8_startOfRun 23 = .ok (.goto (-21), 3) := by decide +kernel
theorem dX8_startOfRun_26 : decode cX8_startOfRun 26 = .ok (.iload_n 3, 1) := by decide +kernel
theorem dX8_startOfRun_27 : decode cX8_startOfRun 27 = .ok (.ireturn, 1) := by decide +kernel
theorem dX8_followRun_0 : decode cX8_followRun 0 = .ok (.aload_n 0, 1) := by decide +kernel
theorem dX8_followRun_1 : decode cX8_followRun 1 = .ok (.iload_n 1, 1) := by decide +kernel
theorem dX8_followRun_2 : decode cX8_followRun 2 = .ok (.iload_n 2, 1) := by decide +kernel
theorem dX8_followRun_3 : decode cX8_followRun 3 = .ok (.invokevirtual 84, 3) := by decide +kernel
theorem dX8_followRun_6 : decode cX8_followRun 6 = .ok (.istore 4, 2) := by decide +kernel
theorem dX8_followRun_8 : decode cX8_followRun 8 = .ok (.aload_n 3, 1) := by decide +kernel
theorem dX8_followRun_9 : decode cX8_followRun 9 = .ok (.aload_n 0, 1) := by decide +kernel
theorem dX8_followRun_10 : decode cX8_followRun 10 = .ok (.iload_n 1, 1) := by decide +kernel
theorem dX8_followRun_11 : decode cX8_followRun 11 = .ok (.iload 4, 2) := by decide +kernel
theorem dX8_followRun_13 : decode cX8_followRun 13 = .ok (.iconst 1, 1) := by decide +kernel
theorem dX8_followRun_14 : decode cX8_followRun 14 = .ok (.isub, 1) := by decide +kernel
theorem dX8_followRun_15 : decode cX8_followRun 15 = .ok (.invokevirtual 87, 3) := by decide +kernel
theorem dX8_followRun_18 : decode cX8_followRun 18 = .ok (.bipush 44, 2) := by decide +kernel
theorem dX8_followRun_20 : decode cX8_followRun 20 = .ok (.if_icmp .ne 7, 3) := by decide +kernel
theorem dX8_followRun_23 : decode cX8_followRun 23 = .ok (.iconst 1, 1) := by decide +kernel
theorem dX8_followRun_24 : decode cX8_followRun 24 = .ok (.goto 4, 3) := by decide +kernel
theorem dX8_followRun_27 : decode cX8_followRun 27 = .ok (.iconst 0, 1) := by decide +kernel
theorem dX8_followRun_28 : decode cX8_followRun 28 = .ok (.invokevirtual 94, 3) := by decide +kernel
theorem dX8_followRun_31 : decode cX8_followRun 31 = .ok (.iload 4, 2) := by decide +kernel
theorem dX8_followRun_33 : decode cX8_followRun 33 = .ok (.istore 5, 2) := by decide +kernel
theorem dX8_followRun_35 : decode cX8_followRun 35 = .ok (.iload 5, 2) := by decide +kernel
theorem dX8_followRun_37 : decode cX8_followRun 37 = .ok (.bipush 32, 2) := by decide +kernel
theorem dX8_followRun_39 : decode cX8_followRun 39 = .ok (.if_icmp .ge 33, 3) := by decide +kernel
theorem dX8_followRun_42 : decode cX8_followRun 42 = .ok (.aload_n 0, 1) := by decide +kernel
theorem dX8_followRun_43 : decode cX8_followRun 43 = .ok (.iload_n 1, 1) := by decide +kernel
theorem dX8_followRun_44 : decode cX8_followRun 44 = .ok (.iload 5, 2) := by decide +kernel
theorem dX8_followRun_46 : decode cX8_followRun 46 = .ok (.invokevirtual 87, 3) := by decide +kernel
theorem dX8_followRun_49 : decode cX8_followRun 49 = .ok (.invokestatic 90, 3) := by decide +kernel
theorem dX8_followRun_52 : decode cX8_followRun 52 = .ok (.ifCond .eq 20, 3) := by decide +kernel
theorem dX8_followRun_55 : decode cX8_followRun 55 = .ok (.aload_n 3, 1) := by decide +kernel
theorem dX8_followRun_56 : decode cX8_followRun 56 = .ok (.aload_n 0, 1) := by decide +kernel
theorem dX8_followRun_57 : decode cX8_followRun 57 = .ok (.iload_n 1, 1) := by decide +kernel
theorem dX8_followRun_58 : decode cX8_followRun 58 = .ok (.iload 5, 2) := by decide +kernel
theorem dX8_followRun_60 : decode cX8_followRun 60 = .ok (.invokevirtual 87, 3) := by decide +kernel
theorem dX8_followRun_63 : decode cX8_followRun 63 = .ok (.invokevirtual 98, 3) := by decide +kernel
theorem dX8_followRun_66 : decode cX8_followRun 66 = .ok (.iinc 5 1, 3) := by decide +kernel
theorem dX8_followRun_69 : decode cX8_followRun 69 = .ok (.goto (-34), 3) := by decide +kernel
theorem dX8_followRun_72 : decode cX8_followRun 72 = .ok (.aload_n 3, 1) := by decide +kernel
theorem dX8_followRun_73 : decode cX8_followRun 73 = .ok (.aload_n 0, 1) := by decide +kernel
theorem dX8_followRun_74 : decode cX8_followRun 74 = .ok (.iload_n 1, 1) := by decide +kernel
theorem dX8_followRun_75 : decode cX8_followRun 75 = .ok (.iload 5, 2) := by decide +kernel
theorem dX8_followRun_77 : decode cX8_followRun 77 = .ok (.invokevirtual 87, 3) := by decide +kernel
theorem dX8_followRun_80 : decode cX8_followRun 80 = .ok (.bipush 44, 2) := by decide +kernel
theorem dX8_followRun_82 : decode cX8_followRun 82 = .ok (.if_icmp .ne 7, 3) := by decide +kernel
theorem dX8_followRun_85 : decode cX8_followRun 85 = .ok (.iconst 1, 1) := by decide +kernel
theorem dX8_followRun_86 : decode cX8_followRun 86 = .ok (.goto 4, 3) := by decide +kernel
theorem dX8_followRun_89 : decode cX8_followRun 89 = .ok (.iconst 0, 1) := by decide +kernel
theorem dX8_followRun_90 : decode cX8_followRun 90 = .ok (.invokevirtual 101, 3) := by decide +kernel
theorem dX8_followRun_93 : decode cX8_followRun 93 = .ok (.return_, 1) := by decide +kernel
theorem dX8_wholeWorth_0 : decode cX8_wholeWorth 0 = .ok (.aload_n 0, 1) := by decide +kernel
theorem dX8_wholeWorth_1 : decode cX8_wholeWorth 1 = .ok (.getfield 23, 3) := by decide +kernel
theorem dX8_wholeWorth_4 : decode cX8_wholeWorth 4 = .ok (.invokevirtual 108, 3) := by decide +kernel
theorem dX8_wholeWorth_7 : decode cX8_wholeWorth 7 = .ok (.aload_n 0, 1) := by decide +kernel
theorem dX8_wholeWorth_8 : decode cX8_wholeWorth 8 = .ok (.getfield 27, 3) := by decide +kernel
theorem dX8_wholeWorth_11 : decode cX8_wholeWorth 11 = .ok (.invokevirtual 108, 3) := by decide +kernel
theorem dX8_wholeWorth_14 : decode cX8_wholeWorth 14 = .ok (.iadd, 1) := by decide +kernel
theorem dX8_wholeWorth_15 : decode cX8_wholeWorth 15 = .ok (.istore_n 1, 1) := by decide +kernel
theorem dX8_wholeWorth_16 : decode cX8_wholeWorth 16 = .ok (.iconst 0, 1) := by decide +kernel
theorem dX8_wholeWorth_17 : decode cX8_wholeWorth 17 = .ok (.istore_n 2, 1) := by decide +kernel
theorem dX8_wholeWorth_18 : decode cX8_wholeWorth 18 = .ok (.iload_n 2, 1) := by decide +kernel
theorem dX8_wholeWorth_19 : decode cX8_wholeWorth 19 = .ok (.bipush 16, 2) := by decide +kernel
theorem dX8_wholeWorth_21 : decode cX8_wholeWorth 21 = .ok (.if_icmp .ge 61, 3) := by decide +kernel
theorem dX8_wholeWorth_24 : decode cX8_wholeWorth 24 = .ok (.iconst 0, 1) := by decide +kernel
theorem dX8_wholeWorth_25 : decode cX8_wholeWorth 25 = .ok (.istore_n 3, 1) := by decide +kernel
theorem dX8_wholeWorth_26 : decode cX8_wholeWorth 26 = .ok (.iload_n 3, 1) := by decide +kernel
theorem dX8_wholeWorth_27 : decode cX8_wholeWorth 27 = .ok (.bipush 32, 2) := by decide +kernel
theorem dX8_wholeWorth_29 : decode cX8_wholeWorth 29 = .ok (.if_icmp .ge 47, 3) := by decide +kernel
theorem dX8_wholeWorth_32 : decode cX8_wholeWorth 32 = .ok (.aload_n 0, 1) := by decide +kernel
theorem dX8_wholeWorth_33 : decode cX8_wholeWorth 33 = .ok (.iload_n 2, 1) := by decide +kernel
theorem dX8_wholeWorth_34 : decode cX8_wholeWorth 34 = .ok (.iload_n 3, 1) := by decide +kernel
theorem dX8_wholeWorth_35 : decode cX8_wholeWorth 35 = .ok (.invokevirtual 59, 3) := by decide +kernel
theorem dX8_wholeWorth_38 : decode cX8_wholeWorth 38 = .ok (.istore 4, 2) := by decide +kernel
theorem dX8_wholeWorth_40 : decode cX8_wholeWorth 40 = .ok (.iload_n 1, 1) := by decide +kernel
theorem dX8_wholeWorth_41 : decode cX8_wholeWorth 41 = .ok (.iload 4, 2) := by decide +kernel
theorem dX8_wholeWorth_43 : decode cX8_wholeWorth 43 = .ok (.aload_n 0, 1) := by decide +kernel
theorem dX8_wholeWorth_44 : decode cX8_wholeWorth 44 = .ok (.iload_n 2, 1) := by decide +kernel
theorem dX8_wholeWorth_45 : decode cX8_wholeWorth 45 = .ok (.iload_n 3, 1) := by decide +kernel
theorem dX8_wholeWorth_46 : decode cX8_wholeWorth 46 = .ok (.iconst 1, 1) := by decide +kernel
theorem dX8_wholeWorth_47 : decode cX8_wholeWorth 47 = .ok (.iadd, 1) := by decide +kernel
theorem dX8_wholeWorth_48 : decode cX8_wholeWorth 48 = .ok (.invokevirtual 59, 3) := by decide +kernel
theorem dX8_wholeWorth_51 : decode cX8_wholeWorth 51 = .ok (.invokestatic 112, 3) := by decide +kernel
theorem dX8_wholeWorth_54 : decode cX8_wholeWorth 54 = .ok (.iload 4, 2) := by decide +kernel
theorem dX8_wholeWorth_56 : decode cX8_wholeWorth 56 = .ok (.aload_n 0, 1) := by decide +kernel
theorem dX8_wholeWorth_57 : decode cX8_wholeWorth 57 = .ok (.iload_n 2, 1) := by decide +kernel
theorem dX8_wholeWorth_58 : decode cX8_wholeWorth 58 = .ok (.iconst 1, 1) := by decide +kernel
theorem dX8_wholeWorth_59 : decode cX8_wholeWorth 59 = .ok (.iadd, 1) := by decide +kernel
theorem dX8_wholeWorth_60 : decode cX8_wholeWorth 60 = .ok (.iload_n 3, 1) := by decide +kernel
theorem dX8_wholeWorth_61 : decode cX8_wholeWorth 61 = .ok (.invokevirtual 59, 3) := by decide +kernel
theorem dX8_wholeWorth_64 : decode cX8_wholeWorth 64 = .ok (.invokestatic 112, 3) := by decide +kernel
theorem dX8_wholeWorth_67 : decode cX8_wholeWorth 67 = .ok (.iadd, 1) := by decide +kernel
theorem dX8_wholeWorth_68 : decode cX8_wholeWorth 68 = .ok (.iadd, 1) := by decide +kernel
theorem dX8_wholeWorth_69 : decode cX8_wholeWorth 69 = .ok (.istore_n 1, 1) := by decide +kernel
theorem dX8_wholeWorth_70 : decode cX8_wholeWorth 70 = .ok (.iinc 3 1, 3) := by decide +kernel
theorem dX8_wholeWorth_73 : decode cX8_wholeWorth 73 = .ok (.goto (-47), 3) := by decide +kernel
theorem dX8_wholeWorth_76 : decode cX8_wholeWorth 76 = .ok (.iinc 2 1, 3) := by decide +kernel
theorem dX8_wholeWorth_79 : decode cX8_wholeWorth 79 = .ok (.goto (-61), 3) := by decide +kernel
theorem dX8_wholeWorth_82 : decode cX8_wholeWorth 82 = .ok (.iload_n 1, 1) := by decide +kernel
theorem dX8_wholeWorth_83 : decode cX8_wholeWorth 83 = .ok (.ireturn, 1) := by decide +kernel
theorem dX8_meet_0 : decode cX8_meet 0 = .ok (.iload_n 0, 1) := by decide +kernel
theorem dX8_meet_1 : decode cX8_meet 1 = .ok (.iconst (-1), 1) := by decide +kernel
theorem dX8_meet_2 : decode cX8_meet 2 = .ok (.if_icmp .eq 17, 3) := by decide +kernel
theorem dX8_meet_5 : decode cX8_meet 5 = .ok (.iload_n 1, 1) := by decide +kernel
theorem dX8_meet_6 : decode cX8_meet 6 = .ok (.iconst (-1), 1) := by decide +kernel
theorem dX8_meet_7 : decode cX8_meet 7 = .ok (.if_icmp .eq 12, 3) := by decide +kernel
theorem dX8_meet_10 : decode cX8_meet 10 = .ok (.iload_n 0, 1) := by decide +kernel
theorem dX8_meet_11 : decode cX8_meet 11 = .ok (.iload_n 1, 1) := by decide +kernel
theorem dX8_meet_12 : decode cX8_meet 12 = .ok (.if_icmp .eq 7, 3) := by decide +kernel
theorem dX8_meet_15 : decode cX8_meet 15 = .ok (.iconst 1, 1) := by decide +kernel
theorem dX8_meet_16 : decode cX8_meet 16 = .ok (.goto 4, 3) := by decide +kernel
theorem dX8_meet_19 : decode cX8_meet 19 = .ok (.iconst 0, 1) := by decide +kernel
theorem dX8_meet_20 : decode cX8_meet 20 = .ok (.ireturn, 1) := by decide +kernel
theorem dX8_write_0 : decode cX8_write 0 = .ok (.iconst 0, 1) := by decide +kernel
theorem dX8_write_1 : decode cX8_write 1 = .ok (.istore 4, 2) := by decide +kernel
theorem dX8_write_3 : decode cX8_write 3 = .ok (.iload 4, 2) := by decide +kernel
theorem dX8_write_5 : decode cX8_write 5 = .ok (.aload_n 1, 1) := by decide +kernel
theorem dX8_write_6 : decode cX8_write 6 = .ok (.getfield 34, 3) := by decide +kernel
theorem dX8_write_9 : decode cX8_write 9 = .ok (.if_icmp .ge 77, 3) := by decide +kernel
theorem dX8_write_12 : decode cX8_write 12 = .ok (.iload_n 2, 1) := by decide +kernel
theorem dX8_write_13 : decode cX8_write 13 = .ok (.aload_n 1, 1) := by decide +kernel
theorem dX8_write_14 : decode cX8_write 14 = .ok (.getfield 40, 3) := by decide +kernel
theorem dX8_write_17 : decode cX8_write 17 = .ok (.iload 4, 2) := by decide +kernel
theorem dX8_write_19 : decode cX8_write 19 = .ok (.iaload, 1) := by decide +kernel
theorem dX8_write_20 : decode cX8_write 20 = .ok (.iadd, 1) := by decide +kernel
theorem dX8_write_21 : decode cX8_write 21 = .ok (.istore 5, 2) := by decide +kernel
theorem dX8_write_23 : decode cX8_write 23 = .ok (.iload_n 3, 1) := by decide +kernel
theorem dX8_write_24 : decode cX8_write 24 = .ok (.aload_n 1, 1) := by decide +kernel
theorem dX8_write_25 : decode cX8_write 25 = .ok (.getfield 43, 3) := by decide +kernel
theorem dX8_write_28 : decode cX8_write 28 = .ok (.iload 4, 2) := by decide +kernel
theorem dX8_write_30 : decode cX8_write 30 = .ok (.iaload, 1) := by decide +kernel
theorem dX8_write_31 : decode cX8_write 31 = .ok (.iadd, 1) := by decide +kernel
theorem dX8_write_32 : decode cX8_write 32 = .ok (.istore 6, 2) := by decide +kernel
theorem dX8_write_34 : decode cX8_write 34 = .ok (.iload 5, 2) := by decide +kernel
theorem dX8_write_36 : decode cX8_write 36 = .ok (.iload 6, 2) := by decide +kernel
theorem dX8_write_38 : decode cX8_write 38 = .ok (.invokestatic 30, 3) := by decide +kernel
theorem dX8_write_41 : decode cX8_write 41 = .ok (.ifCond .eq 39, 3) := by decide +kernel
theorem dX8_write_44 : decode cX8_write 44 = .ok (.aload_n 0, 1) := by decide +kernel
theorem dX8_write_45 : decode cX8_write 45 = .ok (.getfield 9, 3) := by decide +kernel
theorem dX8_write_48 : decode cX8_write 48 = .ok (.iload 5, 2) := by decide +kernel
theorem dX8_write_50 : decode cX8_write 50 = .ok (.bipush 32, 2) := by decide +kernel
theorem dX8_write_52 : decode cX8_write 52 = .ok (.imul, 1) := by decide +kernel
theorem dX8_write_53 : decode cX8_write 53 = .ok (.iload 6, 2) := by decide +kernel
theorem dX8_write_55 : decode cX8_write 55 = .ok (.iadd, 1) := by decide +kernel
theorem dX8_write_56 : decode cX8_write 56 = .ok (.aload_n 1, 1) := by decide +kernel
theorem dX8_write_57 : decode cX8_write 57 = .ok (.getfield 115, 3) := by decide +kernel
theorem dX8_write_60 : decode cX8_write 60 = .ok (.aload_n 1, 1) := by decide +kernel
theorem dX8_write_61 : decode cX8_write 61 = .ok (.getfield 40, 3) := by decide +kernel
theorem dX8_write_64 : decode cX8_write 64 = .ok (.iload 4, 2) := by decide +kernel
theorem dX8_write_66 : decode cX8_write 66 = .ok (.iaload, 1) := by decide +kernel
theorem dX8_write_67 : decode cX8_write 67 = .ok (.bipush 10, 2) := by decide +kernel
theorem dX8_write_69 : decode cX8_write 69 = .ok (.imul, 1) := by decide +kernel
theorem dX8_write_70 : decode cX8_write 70 = .ok (.aload_n 1, 1) := by decide +kernel
theorem dX8_write_71 : decode cX8_write 71 = .ok (.getfield 43, 3) := by decide +kernel
theorem dX8_write_74 : decode cX8_write 74 = .ok (.iload 4, 2) := by decide +kernel
theorem dX8_write_76 : decode cX8_write 76 = .ok (.iaload, 1) := by decide +kernel
theorem dX8_write_77 : decode cX8_write 77 = .ok (.iadd, 1) := by decide +kernel
theorem dX8_write_78 : decode cX8_write 78 = .ok (.iaload, 1) := by decide +kernel
theorem dX8_write_79 : decode cX8_write 79 = .ok (.iastore, 1) := by decide +kernel
theorem dX8_write_80 : decode cX8_write 80 = .ok (.iinc 4 1, 3) := by decide +kernel
theorem dX8_write_83 : decode cX8_write 83 = .ok (.goto (-80), 3) := by decide +kernel
theorem dX8_write_86 : decode cX8_write 86 = .ok (.return_, 1) := by decide +kernel
theorem dX8_wipe_0 : decode cX8_wipe 0 = .ok (.iconst 0, 1) := by decide +kernel
theorem dX8_wipe_1 : decode cX8_wipe 1 = .ok (.istore 4, 2) := by decide +kernel
theorem dX8_wipe_3 : decode cX8_wipe 3 = .ok (.iload 4, 2) := by decide +kernel
theorem dX8_wipe_5 : decode cX8_wipe 5 = .ok (.aload_n 1, 1) := by decide +kernel
theorem dX8_wipe_6 : decode cX8_wipe 6 = .ok (.getfield 34, 3) := by decide +kernel
theorem dX8_wipe_9 : decode cX8_wipe 9 = .ok (.if_icmp .ge 56, 3) := by decide +kernel
theorem dX8_wipe_12 : decode cX8_wipe 12 = .ok (.iload_n 2, 1) := by decide +kernel
theorem dX8_wipe_13 : decode cX8_wipe 13 = .ok (.aload_n 1, 1) := by decide +kernel
theorem dX8_wipe_14 : decode cX8_wipe 14 = .ok (.getfield 40, 3) := by decide +kernel
theorem dX8_wipe_17 : decode cX8_wipe 17 = .ok (.iload 4, 2) := by decide +kernel
theorem dX8_wipe_19 : decode cX8_wipe 19 = .ok (.iaload, 1) := by decide +kernel
theorem dX8_wipe_20 : decode cX8_wipe 20 = .ok (.iadd, 1) := by decide +kernel
theorem dX8_wipe_21 : decode cX8_wipe 21 = .ok (.istore 5, 2) := by decide +kernel
theorem dX8_wipe_23 : decode cX8_wipe 23 = .ok (.iload_n 3, 1) := by decide +kernel
theorem dX8_wipe_24 : decode cX8_wipe 24 = .ok (.aload_n 1, 1) := by decide +kernel
theorem dX8_wipe_25 : decode cX8_wipe 25 = .ok (.getfield 43, 3) := by decide +kernel
theorem dX8_wipe_28 : decode cX8_wipe 28 = .ok (.iload 4, 2) := by decide +kernel
theorem dX8_wipe_30 : decode cX8_wipe 30 = .ok (.iaload, 1) := by decide +kernel
theorem dX8_wipe_31 : decode cX8_wipe 31 = .ok (.iadd, 1) := by decide +kernel
theorem dX8_wipe_32 : decode cX8_wipe 32 = .ok (.istore 6, 2) := by decide +kernel
theorem dX8_wipe_34 : decode cX8_wipe 34 = .ok (.iload 5, 2) := by decide +kernel
theorem dX8_wipe_36 : decode cX8_wipe 36 = .ok (.iload 6, 2) := by decide +kernel
theorem dX8_wipe_38 : decode cX8_wipe 38 = .ok (.invokestatic 30, 3) := by decide +kernel
theorem dX8_wipe_41 : decode cX8_wipe 41 = .ok (.ifCond .eq 18, 3) := by decide +kernel
theorem dX8_wipe_44 : decode cX8_wipe 44 = .ok (.aload_n 0, 1) := by decide +kernel
theorem dX8_wipe_45 : decode cX8_wipe 45 = .ok (.getfield 9, 3) := by decide +kernel
theorem dX8_wipe_48 : decode cX8_wipe 48 = .ok (.iload 5, 2) := by decide +kernel
theorem dX8_wipe_50 : decode cX8_wipe 50 = .ok (.bipush 32, 2) := by decide +kernel
theorem dX8_wipe_52 : decode cX8_wipe 52 = .ok (.imul, 1) := by decide +kernel
theorem dX8_wipe_53 : decode cX8_wipe 53 = .ok (.iload 6, 2) := by decide +kernel
theorem dX8_wipe_55 : decode cX8_wipe 55 = .ok (.iadd, 1) := by decide +kernel
theorem dX8_wipe_56 : decode cX8_wipe 56 = .ok (.bipush 95, 2) := by decide +kernel
theorem dX8_wipe_58 : decode cX8_wipe 58 = .ok (.iastore, 1) := by decide +kernel
theorem dX8_wipe_59 : decode cX8_wipe 59 = .ok (.iinc 4 1, 3) := by decide +kernel
theorem dX8_wipe_62 : decode cX8_wipe 62 = .ok (.goto (-59), 3) := by decide +kernel
theorem dX8_wipe_65 : decode cX8_wipe 65 = .ok (.return_, 1) := by decide +kernel
theorem dX8_put_0 : decode cX8_put 0 = .ok (.aload_n 0, 1) := by decide +kernel
theorem dX8_put_1 : decode cX8_put 1 = .ok (.aload_n 1, 1) := by decide +kernel
theorem dX8_put_2 : decode cX8_put 2 = .ok (.iload_n 2, 1) := by decide +kernel
theorem dX8_put_3 : decode cX8_put 3 = .ok (.iload_n 3, 1) := by decide +kernel
theorem dX8_put_4 : decode cX8_put 4 = .ok (.invokevirtual 71, 3) := by decide +kernel
theorem dX8_put_7 : decode cX8_put 7 = .ok (.aload_n 0, 1) := by decide +kernel
theorem dX8_put_8 : decode cX8_put 8 = .ok (.aload_n 1, 1) := by decide +kernel
theorem dX8_put_9 : decode cX8_put 9 = .ok (.iload_n 2, 1) := by decide +kernel
theorem dX8_put_10 : decode cX8_put 10 = .ok (.iload_n 3, 1) := by decide +kernel
theorem dX8_put_11 : decode cX8_put 11 = .ok (.aload_n 1, 1) := by decide +kernel
theorem dX8_put_12 : decode cX8_put 12 = .ok (.getfield 116, 3) := by decide +kernel
theorem dX8_put_15 : decode cX8_put 15 = .ok (.invokevirtual 119, 3) := by decide +kernel
theorem dX8_put_18 : decode cX8_put 18 = .ok (.aload_n 0, 1) := by decide +kernel
theorem dX8_put_19 : decode cX8_put 19 = .ok (.getfield 23, 3) := by decide +kernel
theorem dX8_put_22 : decode cX8_put 22 = .ok (.aload_n 1, 1) := by decide +kernel
theorem dX8_put_23 : decode cX8_put 23 = .ok (.getfield 46, 3) := by decide +kernel
theorem dX8_put_26 : decode cX8_put 26 = .ok (.iload_n 2, 1) := by decide +kernel
theorem dX8_put_27 : decode cX8_put 27 = .ok (.iconst 1, 1) := by decide +kernel
theorem dX8_put_28 : decode cX8_put 28 = .ok (.invokevirtual 123, 3) := by decide +kernel
theorem dX8_put_31 : decode cX8_put 31 = .ok (.aload_n 0, 1) := by decide +kernel
theorem dX8_put_32 : decode cX8_put 32 = .ok (.getfield 27, 3) := by decide +kernel
theorem dX8_put_35 : decode cX8_put 35 = .ok (.aload_n 1, 1) := by decide +kernel
theorem dX8_put_36 : decode cX8_put 36 = .ok (.getfield 53, 3) := by decide +kernel
theorem dX8_put_39 : decode cX8_put 39 = .ok (.iload_n 3, 1) := by decide +kernel
theorem dX8_put_40 : decode cX8_put 40 = .ok (.iconst 1, 1) := by decide +kernel
theorem dX8_put_41 : decode cX8_put 41 = .ok (.invokevirtual 123, 3) := by decide +kernel
theorem dX8_put_44 : decode cX8_put 44 = .ok (.aload_n 1, 1) := by decide +kernel
theorem dX8_put_45 : decode cX8_put 45 = .ok (.iconst 1, 1) := by decide +kernel
theorem dX8_put_46 : decode cX8_put 46 = .ok (.putfield 127, 3) := by decide +kernel
theorem dX8_put_49 : decode cX8_put 49 = .ok (.aload_n 1, 1) := by decide +kernel
theorem dX8_put_50 : decode cX8_put 50 = .ok (.iload_n 2, 1) := by decide +kernel
theorem dX8_put_51 : decode cX8_put 51 = .ok (.putfield 131, 3) := by decide +kernel
theorem dX8_put_54 : decode cX8_put 54 = .ok (.aload_n 1, 1) := by decide +kernel
theorem dX8_put_55 : decode cX8_put 55 = .ok (.iload_n 3, 1) := by decide +kernel
theorem dX8_put_56 : decode cX8_put 56 = .ok (.putfield 134, 3) := by decide +kernel
theorem dX8_put_59 : decode cX8_put 59 = .ok (.aload_n 0, 1) := by decide +kernel
theorem dX8_put_60 : decode cX8_put 60 = .ok (.dup, 1) := by decide +kernel
theorem dX8_put_61 : decode cX8_put 61 = .ok (.getfield 137, 3) := by decide +kernel
theorem dX8_put_64 : decode cX8_put 64 = .ok (.iconst 1, 1) := by decide +kernel
theorem dX8_put_65 : decode cX8_put 65 = .ok (.iadd, 1) := by decide +kernel
theorem dX8_put_66 : decode cX8_put 66 = .ok (.putfield 137, 3) := by decide +kernel
theorem dX8_put_69 : decode cX8_put 69 = .ok (.return_, 1) := by decide +kernel
theorem dX8_remove_0 : decode cX8_remove 0 = .ok (.aload_n 0, 1) := by decide +kernel
theorem dX8_remove_1 : decode cX8_remove 1 = .ok (.aload_n 1, 1) := by decide +kernel
theorem dX8_remove_2 : decode cX8_remove 2 = .ok (.aload_n 1, 1) := by decide +kernel
theorem dX8_remove_3 : decode cX8_remove 3 = .ok (.getfield 131, 3) := by decide +kernel
theorem dX8_remove_6 : decode cX8_remove 6 = .ok (.aload_n 1, 1) := by decide +kernel
theorem dX8_remove_7 : decode cX8_remove 7 = .ok (.getfield 134, 3) := by decide +kernel
theorem dX8_remove_10 : decode cX8_remove 10 = .ok (.invokevirtual 81, 3) := by decide +kernel
theorem dX8_remove_13 : decode cX8_remove 13 = .ok (.aload_n 0, 1) := by decide +kernel
theorem dX8_remove_14 : decode cX8_remove 14 = .ok (.aload_n 1, 1) := by decide +kernel
theorem dX8_remove_15 : decode cX8_remove 15 = .ok (.aload_n 1, 1) := by decide +kernel
theorem dX8_remove_16 : decode cX8_remove 16 = .ok (.getfield 131, 3) := by decide +kernel
theorem dX8_remove_19 : decode cX8_remove 19 = .ok (.aload_n 1, 1) := by decide +kernel
theorem dX8_remove_20 : decode cX8_remove 20 = .ok (.getfield 134, 3) := by decide +kernel
theorem dX8_remove_23 : decode cX8_remove 23 = .ok (.iconst (-1), 1) := by decide +kernel
theorem dX8_remove_24 : decode cX8_remove 24 = .ok (.invokevirtual 119, 3) := by decide +kernel
theorem dX8_remove_27 : decode cX8_remove 27 = .ok (.aload_n 0, 1) := by decide +kernel
theorem dX8_remove_28 : decode cX8_remove 28 = .ok (.getfield 23, 3) := by decide +kernel
theorem dX8_remove_31 : decode cX8_remove 31 = .ok (.aload_n 1, 1) := by decide +kernel
theorem dX8_remove_32 : decode cX8_remove 32 = .ok (.getfield 46, 3) := by decide +kernel
theorem dX8_remove_35 : decode cX8_remove 35 = .ok (.aload_n 1, 1) := by decide +kernel
theorem dX8_remove_36 : decode cX8_remove 36 = .ok (.getfield 131, 3) := by decide +kernel
theorem dX8_remove_39 : decode cX8_remove 39 = .ok (.iconst (-1), 1) := by decide +kernel
theorem dX8_remove_40 : decode cX8_remove 40 = .ok (.invokevirtual 123, 3) := by decide +kernel
theorem dX8_remove_43 : decode cX8_remove 43 = .ok (.aload_n 0, 1) := by decide +kernel
theorem dX8_remove_44 : decode cX8_remove 44 = .ok (.getfield 27, 3) := by decide +kernel
theorem dX8_remove_47 : decode cX8_remove 47 = .ok (.aload_n 1, 1) := by decide +kernel
theorem dX8_remove_48 : decode cX8_remove 48 = .ok (.getfield 53, 3) := by decide +kernel
theorem dX8_remove_51 : decode cX8_remove 51 = .ok (.aload_n 1, 1) := by decide +kernel
theorem dX8_remove_52 : decode cX8_remove 52 = .ok (.getfield 134, 3) := by decide +kernel
theorem dX8_remove_55 : decode cX8_remove 55 = .ok (.iconst (-1), 1) := by decide +kernel
theorem dX8_remove_56 : decode cX8_remove 56 = .ok (.invokevirtual 123, 3) := by decide +kernel
theorem dX8_remove_59 : decode cX8_remove 59 = .ok (.aload_n 1, 1) := by decide +kernel
theorem dX8_remove_60 : decode cX8_remove 60 = .ok (.iconst 0, 1) := by decide +kernel
theorem dX8_remove_61 : decode cX8_remove 61 = .ok (.putfield 127, 3) := by decide +kernel
theorem dX8_remove_64 : decode cX8_remove 64 = .ok (.aload_n 0, 1) := by decide +kernel
theorem dX8_remove_65 : decode cX8_remove 65 = .ok (.dup, 1) := by decide +kernel
theorem dX8_remove_66 : decode cX8_remove 66 = .ok (.getfield 137, 3) := by decide +kernel
theorem dX8_remove_69 : decode cX8_remove 69 = .ok (.iconst 1, 1) := by decide +kernel
theorem dX8_remove_70 : decode cX8_remove 70 = .ok (.isub, 1) := by decide +kernel
theorem dX8_remove_71 : decode cX8_remove 71 = .ok (.putfield 137, 3) := by decide +kernel
theorem dX8_remove_74 : decode cX8_remove 74 = .ok (.return_, 1) := by decide +kernel
theorem dX8_own_0 : decode cX8_own 0 = .ok (.iconst 0, 1) := by decide +kernel
theorem dX8_own_1 : decode cX8_own 1 = .ok (.istore 5, 2) := by decide +kernel
theorem dX8_own_3 : decode cX8_own 3 = .ok (.iload 5, 2) := by decide +kernel
theorem dX8_own_5 : decode cX8_own 5 = .ok (.aload_n 1, 1) := by decide +kernel
theorem dX8_own_6 : decode cX8_own 6 = .ok (.getfield 34, 3) := by decide +kernel
theorem dX8_own_9 : decode cX8_own 9 = .ok (.if_icmp .ge 56, 3) := by decide +kernel
theorem dX8_own_12 : decode cX8_own 12 = .ok (.iload_n 2, 1) := by decide +kernel
theorem dX8_own_13 : decode cX8_own 13 = .ok (.aload_n 1, 1) := by decide +kernel
theorem dX8_own_14 : decode cX8_own 14 = .ok (.getfield 40, 3) := by decide +kernel
theorem dX8_own_17 : decode cX8_own 17 = .ok (.iload 5, 2) := by decide +kernel
theorem dX8_own_19 : decode cX8_own 19 = .ok (.iaload, 1) := by decide +kernel
theorem dX8_own_20 : decode cX8_own 20 = .ok (.iadd, 1) := by decide +kernel
theorem dX8_own_21 : decode cX8_own 21 = .ok (.istore 6, 2) := by decide +kernel
theorem dX8_own_23 : decode cX8_own 23 = .ok (.iload_n 3, 1) := by decide +kernel
theorem dX8_own_24 : decode cX8_own 24 = .ok (.aload_n 1, 1) := by decide +kernel
theorem dX8_own_25 : decode cX8_own 25 = .ok (.getfield 43, 3) := by decide +kernel
theorem dX8_own_28 : decode cX8_own 28 = .ok (.iload 5, 2) := by decide +kernel
theorem dX8_own_30 : decode cX8_own 30 = .ok (.iaload, 1) := by decide +kernel
theorem dX8_own_31 : decode cX8_own 31 = .ok (.iadd, 1) := by decide +kernel
theorem dX8_own_32 : decode cX8_own 32 = .ok (.istore 7, 2) := by decide +kernel
theorem dX8_own_34 : decode cX8_own 34 = .ok (.iload 6, 2) := by decide +kernel
theorem dX8_own_36 : decode cX8_own 36 = .ok (.iload 7, 2) := by decide +kernel
theorem dX8_own_38 : decode cX8_own 38 = .ok (.invokestatic 30, 3) := by decide +kernel
theorem dX8_own_41 : decode cX8_own 41 = .ok (.ifCond .eq 18, 3) := by decide +kernel
theorem dX8_own_44 : decode cX8_own 44 = .ok (.aload_n 0, 1) := by decide +kernel
theorem dX8_own_45 : decode cX8_own 45 = .ok (.getfield 15, 3) := by decide +kernel
theorem dX8_own_48 : decode cX8_own 48 = .ok (.iload 6, 2) := by decide +kernel
theorem dX8_own_50 : decode cX8_own 50 = .ok (.bipush 32, 2) := by decide +kernel
theorem dX8_own_52 : decode cX8_own 52 = .ok (.imul, 1) := by decide +kernel
theorem dX8_own_53 : decode cX8_own 53 = .ok (.iload 7, 2) := by decide +kernel
theorem dX8_own_55 : decode cX8_own 55 = .ok (.iadd, 1) := by decide +kernel
theorem dX8_own_56 : decode cX8_own 56 = .ok (.iload 4, 2) := by decide +kernel
theorem dX8_own_58 : decode cX8_own 58 = .ok (.iastore, 1) := by decide +kernel
theorem dX8_own_59 : decode cX8_own 59 = .ok (.iinc 5 1, 3) := by decide +kernel
theorem dX8_own_62 : decode cX8_own 62 = .ok (.goto (-59), 3) := by decide +kernel
theorem dX8_own_65 : decode cX8_own 65 = .ok (.return_, 1) := by decide +kernel
theorem dX9_init_0 : decode cX9_init 0 = .ok (.aload_n 0, 1) := by decide +kernel
theorem dX9_init_1 : decode cX9_init 1 = .ok (.invokespecial 3, 3) := by decide +kernel
theorem dX9_init_4 : decode cX9_init 4 = .ok (.aload_n 0, 1) := by decide +kernel
theorem dX9_init_5 : decode cX9_init 5 = .ok (.sipush 200, 3) := by decide +kernel
theorem dX9_init_8 : decode cX9_init 8 = .ok (.newarray .int, 2) := by decide +kernel
theorem dX9_init_10 : decode cX9_init 10 = .ok (.putfield 9, 3) := by decide +kernel
theorem dX9_init_13 : decode cX9_init 13 = .ok (.return_, 1) := by decide +kernel
theorem dX9_append_0 : decode cX9_append 0 = .ok (.bipush 24, 2) := by decide +kernel
theorem dX9_append_2 : decode cX9_append 2 = .ok (.istore_n 2, 1) := by decide +kernel
theorem dX9_append_3 : decode cX9_append 3 = .ok (.iload_n 2, 1) := by decide +kernel
theorem dX9_append_4 : decode cX9_append 4 = .ok (.ifCond .lt 45, 3) := by decide +kernel
theorem dX9_append_7 : decode cX9_append 7 = .ok (.aload_n 0, 1) := by decide +kernel
theorem dX9_append_8 : decode cX9_append 8 = .ok (.getfield 15, 3) := by decide +kernel
theorem dX9_append_11 : decode cX9_append 11 = .ok (.sipush 200, 3) := by decide +kernel
theorem dX9_append_14 : decode cX9_append 14 = .ok (.if_icmp .ge 35, 3) := by decide +kernel
theorem dX9_append_17 : decode cX9_append 17 = .ok (.aload_n 0, 1) := by decide +kernel
theorem dX9_append_18 : decode cX9_append 18 = .ok (.getfield 9, 3) := by decide +kernel
theorem dX9_append_21 : decode cX9_append 21 = .ok (.aload_n 0, 1) := by decide +kernel
theorem dX9_append_22 : decode cX9_append 22 = .ok (.getfield 15, 3) := by decide +kernel
theorem dX9_append_25 : decode cX9_append 25 = .ok (.iload_n 1, 1) := by decide +kernel
theorem dX9_append_26 : decode cX9_append 26 = .ok (.iload_n 2, 1) := by decide +kernel
theorem dX9_append_27 : decode cX9_append 27 = .ok (.iushr, 1) := by decide +kernel
theorem dX9_append_28 : decode cX9_append 28 = .ok (.sipush 255, 3) := by decide +kernel
theorem dX9_append_31 : decode cX9_append 31 = .ok (.iand, 1) := by decide +kernel
theorem dX9_append_32 : decode cX9_append 32 = .ok (.iastore, 1) := by decide +kernel
theorem dX9_append_33 : decode cX9_append 33 = .ok (.aload_n 0, 1) := by decide +kernel
theorem dX9_append_34 : decode cX9_append 34 = .ok (.dup, 1) := by decide +kernel
theorem dX9_append_35 : decode cX9_append 35 = .ok (.getfield 15, 3) := by decide +kernel
theorem dX9_append_38 : decode cX9_append 38 = .ok (.iconst 1, 1) := by decide +kernel
theorem dX9_append_39 : decode cX9_append 39 = .ok (.iadd, 1) := by decide +kernel
theorem dX9_append_40 : decode cX9_append 40 = .ok (.putfield 15, 3) := by decide +kernel
theorem dX9_append_43 : decode cX9_append 43 = .ok (.iinc 2 (-8), 3) := by decide +kernel
theorem dX9_append_46 : decode cX9_append 46 = .ok (.goto (-43), 3) := by decide +kernel
theorem dX9_append_49 : decode cX9_append 49 = .ok (.return_, 1) := by decide +kernel
theorem dX9_isLetters_0 : decode cX9_isLetters 0 = .ok (.aload_n 0, 1) := by decide +kernel
theorem dX9_isLetters_1 : decode cX9_isLetters 1 = .ok (.getfield 15, 3) := by decide +kernel
theorem dX9_isLetters_4 : decode cX9_isLetters 4 = .ok (.iconst 1, 1) := by decide +kernel
theorem dX9_isLetters_5 : decode cX9_isLetters 5 = .ok (.if_icmp .lt 11, 3) := by decide +kernel
theorem dX9_isLetters_8 : decode cX9_isLetters 8 = .ok (.aload_n 0, 1) := by decide +kernel
theorem dX9_isLetters_9 : decode cX9_isLetters 9 = .ok (.getfield 15, 3) := by decide +kernel
theorem dX9_isLetters_12 : decode cX9_isLetters 12 = .ok (.iload_n 1, 1) := by decide +kernel
theorem dX9_isLetters_13 : decode cX9_isLetters 13 = .ok (.if_icmp .le 5, 3) := by decide +kernel
theorem dX9_isLetters_16 : decode cX9_isLetters 16 = .ok (.iconst 0, 1) := by decide +kernel
theorem dX9_isLetters_17 : decode cX9_isLetters 17 = .ok (.ireturn, 1) := by decide +kernel
theorem dX9_isLetters_18 : decode cX9_isLetters 18 = .ok (.iconst 0, 1) := by decide +kernel
theorem dX9_isLetters_19 : decode cX9_isLetters 19 = .ok (.istore_n 2, 1) := by decide +kernel
theorem dX9_isLetters_20 : decode cX9_isLetters 20 = .ok (.iload_n 2, 1) := by decide +kernel
theorem dX9_isLetters_21 : decode cX9_isLetters 21 = .ok (.aload_n 0, 1) := by decide +kernel
theorem dX9_isLetters_22 : decode cX9_isLetters 22 = .ok (.getfield 15, 3) := by decide +kernel
theorem dX9_isLetters_25 : decode cX9_isLetters 25 = .ok (.if_icmp .ge 23, 3) := by decide +kernel
theorem dX9_isLetters_28 : decode cX9_isLetters 28 = .ok (.aload_n 0, 1) := by decide +kernel
theorem dX9_isLetters_29 : decode cX9_isLetters 29 = .ok (.getfield 9, 3) := by decide +kernel
theorem dX9_isLetters_32 : decode cX9_isLetters 32 = .ok (.iload_n 2, 1) := by decide +kernel
theorem dX9_isLetters_33 : decode cX9_isLetters 33 = .ok (.iaload, 1) := by decide +kernel
theorem dX9_isLetters_34 : decode cX9_isLetters 34 = .ok (.invokestatic 19, 3) := by decide +kernel
theorem dX9_isLetters_37 : decode cX9_isLetters 37 = .ok (.ifCond .ne 5, 3) := by decide +kernel
theorem dX9_isLetters_40 : decode cX9_isLetters 40 = .ok (.iconst 0, 1) := by decide +kernel
theorem dX9_isLetters_41 : decode cX9_isLetters 41 = .ok (.ireturn, 1) := by decide +kernel
theorem dX9_isLetters_42 : decode cX9_isLetters 42 = .ok (.iinc 2 1, 3) := by decide +kernel
theorem dX9_isLetters_45 : decode cX9_isLetters 45 = .ok (.goto (-25), 3) := by decide +kernel
theorem dX9_isLetters_48 : decode cX9_isLetters 48 = .ok (.iconst 1, 1) := by decide +kernel
theorem dX9_isLetters_49 : decode cX9_isLetters 49 = .ok (.ireturn, 1) := by decide +kernel
theorem dX10_init_0 : decode cX10_init 0 = .ok (.aload_n 0, 1) := by decide +kernel
theorem dX10_init_1 : decode cX10_init 1 = .ok (.invokespecial 3, 3) := by decide +kernel
theorem dX10_init_4 : decode cX10_init 4 = .ok (.aload_n 0, 1) := by decide +kernel
theorem dX10_init_5 : decode cX10_init 5 = .ok (.iconst 2, 1) := by decide +kernel
theorem dX10_init_6 : decode cX10_init 6 = .ok (.bipush 27, 2) := by decide +kernel
theorem dX10_init_8 : decode cX10_init 8 = .ok (.multianewarray 11 2, 4) := by decide +kernel
theorem dX10_init_12 : decode cX10_init 12 = .ok (.putfield 13, 3) := by decide +kernel
theorem dX10_init_15 : decode cX10_init 15 = .ok (.aload_n 0, 1) := by decide +kernel
theorem dX10_init_16 : decode cX10_init 16 = .ok (.iconst 2, 1) := by decide +kernel
theorem dX10_init_17 : decode cX10_init 17 = .ok (.newarray .long, 2) := by decide +kernel
theorem dX10_init_19 : decode cX10_init 19 = .ok (.putfield 16, 3) := by decide +kernel
theorem dX10_init_22 : decode cX10_init 22 = .ok (.aload_n 0, 1) := by decide +kernel
theorem dX10_init_23 : decode cX10_init 23 = .ok (.iconst 2, 1) := by decide +kernel
theorem dX10_init_24 : decode cX10_init 24 = .ok (.newarray .long, 2) := by decide +kernel
theorem dX10_init_26 : decode cX10_init 26 = .ok (.putfield 20, 3) := by decide +kernel
theorem dX10_init_29 : decode cX10_init 29 = .ok (.aload_n 0, 1) := by decide +kernel
theorem dX10_init_30 : decode cX10_init 30 = .ok (.iconst 2, 1) := by decide +kernel
theorem dX10_init_31 : decode cX10_init 31 = .ok (.newarray .long, 2) := by decide +kernel
theorem dX10_init_33 : decode cX10_init 33 = .ok (.putfield 23, 3) := by decide +kernel
theorem dX10_init_36 : decode cX10_init 36 = .ok (.aload_n 0, 1) := by decide +kernel
theorem dX10_init_37 : decode cX10_init 37 = .ok (.iconst 2, 1) := by decide +kernel
theorem dX10_init_38 : decode cX10_init 38 = .ok (.newarray .long, 2) := by decide +kernel
theorem dX10_init_40 : decode cX10_init 40 = .ok (.putfield 26, 3) := by decide +kernel
theorem dX10_init_43 : decode cX10_init 43 = .ok (.return_, 1) := by decide +kernel
theorem dX10_append_0 : decode cX10_append 0 = .ok (.aload_n 0, 1) := by decide +kernel
theorem dX10_append_1 : decode cX10_append 1 = .ok (.getfield 29, 3) := by decide +kernel
theorem dX10_append_4 : decode cX10_append 4 = .ok (.bipush 6, 2) := by decide +kernel
theorem dX10_append_6 : decode cX10_append 6 = .ok (.idiv, 1) := by decide +kernel
theorem dX10_append_7 : decode cX10_append 7 = .ok (.istore_n 2, 1) := by decide +kernel
theorem dX10_append_8 : decode cX10_append 8 = .ok (.aload_n 0, 1) := by decide +kernel
theorem dX10_append_9 : decode cX10_append 9 = .ok (.getfield 29, 3) := by decide +kernel
theorem dX10_append_12 : decode cX10_append 12 = .ok (.bipush 6, 2) := by decide +kernel
theorem dX10_append_14 : decode cX10_append 14 = .ok (.irem, 1) := by decide +kernel
theorem dX10_append_15 : decode cX10_append 15 = .ok (.bipush 10, 2) := by decide +kernel
theorem dX10_append_17 : decode cX10_append 17 = .ok (.imul, 1) := by decide +kernel
theorem dX10_append_18 : decode cX10_append 18 = .ok (.istore_n 3, 1) := by decide +kernel
theorem dX10_append_19 : decode cX10_append 19 = .ok (.iload_n 2, 1) := by decide +kernel
theorem dX10_append_20 : decode cX10_append 20 = .ok (.iconst 2, 1) := by decide +kernel
theorem dX10_append_21 : decode cX10_append 21 = .ok (.if_icmp .ge 20, 3) := by decide +kernel
theorem dX10_append_24 : decode cX10_append 24 = .ok (.aload_n 1, 1) := by decide +kernel
theorem dX10_append_25 : decode cX10_append 25 = .ok (.getfield 33, 3) := by decide +kernel
theorem dX10_append_28 : decode cX10_append 28 = .ok (.iconst 1, 1) := by decide +kernel
theorem dX10_append_29 : decode cX10_append 29 = .ok (.if_icmp .lt 12, 3) := by decide +kernel
theorem dX10_append_32 : decode cX10_append 32 = .ok (.aload_n 1, 1) := by decide +kernel
theorem dX10_append_33 : decode cX10_append 33 = .ok (.getfield 33, 3) := by decide +kernel
theorem dX10_append_36 : decode cX10_append 36 = .ok (.bipush 10, 2) := by decide +kernel
theorem dX10_append_38 : decode cX10_append 38 = .ok (.if_icmp .le 4, 3) := by decide +kernel
theorem dX10_append_41 : decode cX10_append 41 = .ok (.return_, 1) := by decide +kernel
theorem dX10_append_42 : decode cX10_append 42 = .ok (.iconst 0, 1) := by decide +kernel
theorem dX10_append_43 : decode cX10_append 43 = .ok (.istore 4, 2) := by decide +kernel
theorem dX10_append_45 : decode cX10_append 45 = .ok (.iload 4, 2) := by decide +kernel
theorem dX10_append_47 : decode cX10_append 47 = .ok (.aload_n 1, 1) := by decide +kernel
theorem dX10_append_48 : decode cX10_append 48 = .ok (.getfield 33, 3) := by decide +kernel
theorem dX10_append_51 : decode cX10_append 51 = .ok (.if_icmp .ge 53, 3) := by decide +kernel
theorem dX10_append_54 : decode cX10_append 54 = .ok (.lconst 1, 1) := by decide +kernel
theorem dX10_append_55 : decode cX10_append 55 = .ok (.iload_n 3, 1) := by decide +kernel
theorem dX10_append_56 : decode cX10_append 56 = .ok (.iload 4, 2) := by decide +kernel
theorem dX10_append_58 : decode cX10_append 58 = .ok (.iadd, 1) := by decide +kernel
theorem dX10_append_59 : decode cX10_append 59 = .ok (.lshl, 1) := by decide +kernel
theorem dX10_append_60 : decode cX10_append 60 = .ok (.lstore 5, 2) := by decide +kernel
theorem dX10_append_62 : decode cX10_append 62 = .ok (.aload_n 0, 1) := by decide +kernel
theorem dX10_append_63 : decode cX10_append 63 = .ok (.getfield 13, 3) := by decide +kernel
theorem dX10_append_66 : decode cX10_append 66 = .ok (.iload_n 2, 1) := by decide +kernel
theorem dX10_append_67 : decode cX10_append 67 = .ok (.aaload, 1) := by decide +kernel
theorem dX10_append_68 : decode cX10_append 68 = .ok (.aload_n 1, 1) := by decide +kernel
theorem dX10_append_69 : decode cX10_append 69 = .ok (.getfield 38, 3) := by decide +kernel
theorem dX10_append_72 : decode cX10_append 72 = .ok (.iload 4, 2) := by decide +kernel
theorem dX10_append_74 : decode cX10_append 74 = .ok (.iaload, 1) := by decide +kernel
theorem dX10_append_75 : decode cX10_append 75 = .ok (.invokestatic 42, 3) := by decide +kernel
theorem dX10_append_78 : decode cX10_append 78 = .ok (.dup2, 1) := by decide +kernel
theorem dX10_append_79 : decode cX10_append 79 = .ok (.laload, 1) := by decide +kernel
theorem dX10_append_80 : decode cX10_append 80 = .ok (.lload 5, 2) := by decide +kernel
theorem dX10_append_82 : decode cX10_append 82 = .ok (.lor, 1) := by decide +kernel
theorem dX10_append_83 : decode cX10_append 83 = .ok (.lastore, 1) := by decide +kernel
theorem dX10_append_84 : decode cX10_append 84 = .ok (.aload_n 0, 1) := by decide +kernel
theorem dX10_append_85 : decode cX10_append 85 = .ok (.getfield 13, 3) := by decide +kernel
theorem dX10_append_88 : decode cX10_append 88 = .ok (.iload_n 2, 1) := by decide +kernel
theorem dX10_append_89 : decode cX10_append 89 = .ok (.aaload, 1) := by decide +kernel
theorem dX10_append_90 : decode cX10_append 90 = .ok (.bipush 26, 2) := by decide +kernel
theorem dX10_append_92 : decode cX10_append 92 = .ok (.dup2, 1) := by decide +kernel
theorem dX10_append_93 : decode cX10_append 93 = .ok (.laload, 1) := by decide +kernel
theorem dX10_append_94 : decode cX10_append 94 = .ok (.lload 5, 2) := by decide +kernel
theorem dX10_append_96 : decode cX10_append 96 = .ok (.lor, 1) := by decide +kernel
theorem dX10_append_97 : decode cX10_append 97 = .ok (.lastore, 1) := by decide +kernel
theorem dX10_append_98 : decode cX10_append 98 = .ok (.iinc 4 1, 3) := by decide +kernel
theorem dX10_append_101 : decode cX10_append 101 = .ok (.goto (-56), 3) := by decide +kernel
theorem dX10_append_104 : decode cX10_append 104 = .ok (.aload_n 0, 1) := by decide +kernel
theorem dX10_append_105 : decode cX10_append 105 = .ok (.getfield 16, 3) := by decide +kernel
theorem dX10_append_108 : decode cX10_append 108 = .ok (.iload_n 2, 1) := by decide +kernel
theorem dX10_append_109 : decode cX10_append 109 = .ok (.dup2, 1) := by decide +kernel
theorem dX10_append_110 : decode cX10_append 110 = .ok (.laload, 1) := by decide +kernel
theorem dX10_append_111 : decode cX10_append 111 = .ok (.lconst 1, 1) := by decide +kernel
theorem dX10_append_112 : decode cX10_append 112 = .ok (.iload_n 3, 1) := by decide +kernel
theorem dX10_append_113 : decode cX10_append 113 = .ok (.lshl, 1) := by decide +kernel
theorem dX10_append_114 : decode cX10_append 114 = .ok (.lor, 1) := by decide +kernel
theorem dX10_append_115 : decode cX10_append 115 = .ok (.lastore, 1) := by decide +kernel
theorem dX10_append_116 : decode cX10_append 116 = .ok (.aload_n 0, 1) := by decide +kernel
theorem dX10_append_117 : decode cX10_append 117 = .ok (.getfield 20, 3) := by decide +kernel
theorem dX10_append_120 : decode cX10_append 120 = .ok (.iload_n 2, 1) := by decide +kernel
theorem dX10_append_121 : decode cX10_append 121 = .ok (.dup2, 1) := by decide +kernel
theorem dX10_append_122 : decode cX10_append 122 = .ok (.laload, 1) := by decide +kernel
theorem dX10_append_123 : decode cX10_append 123 = .ok (.lconst 1, 1) := by decide +kernel
theorem dX10_append_124 : decode cX10_append 124 = .ok (.iload_n 3, 1) := by decide +kernel
theorem dX10_append_125 : decode cX10_append 125 = .ok (.aload_n 1, 1) := by decide +kernel
theorem dX10_append_126 : decode cX10_append 126 = .ok (.getfield 33, 3) := by decide +kernel
theorem dX10_append_129 : decode cX10_append 129 = .ok (.iadd, 1) := by decide +kernel
theorem dX10_append_130 : decode cX10_append 130 = .ok (.iconst 1, 1) := by decide +kernel
theorem dX10_append_131 : decode cX10_append 131 = .ok (.isub, 1) := by decide +kernel
theorem dX10_append_132 : decode cX10_append 132 = .ok (.lshl, 1) := by decide +kernel
theorem dX10_append_133 : decode cX10_append 133 = .ok (.lor, 1) := by decide +kernel
theorem dX10_append_134 : decode cX10_append 134 = .ok (.lastore, 1) := by decide +kernel
theorem dX10_append_135 : decode cX10_append 135 = .ok (.aload_n 0, 1) := by decide +kernel
theorem dX10_append_136 : decode cX10_append 136 = .ok (.dup, 1) := by decide +kernel
theorem dX10_append_137 : decode cX10_append 137 = .ok (.getfield 29, 3) := by decide +kernel
theorem dX10_append_140 : decode cX10_append 140 = .ok (.iconst 1, 1) := by decide +kernel
theorem dX10_append_141 : decode cX10_append 141 = .ok (.iadd, 1) := by decide +kernel
theorem dX10_append_142 : decode cX10_append 142 = .ok (.putfield 29, 3) := by decide +kernel
theorem dX10_append_145 : decode cX10_append 145 = .ok (.return_, 1) := by decide +kernel
theorem dX10_indexOf_0 : decode cX10_indexOf 0 = .ok (.iload_n 0, 1) := by decide +kernel
theorem dX10_indexOf_1 : decode cX10_indexOf 1 = .ok (.bipush 97, 2) := by decide +kernel
theorem dX10_indexOf_3 : decode cX10_indexOf 3 = .ok (.if_icmp .lt 16, 3) := by decide +kernel
theorem dX10_indexOf_6 : decode cX10_indexOf 6 = .ok (.iload_n 0, 1) := by decide +kernel
theorem dX10_indexOf_7 : decode cX10_indexOf 7 = .ok (.bipush 122, 2) := by decide +kernel
theorem dX10_indexOf_9 : decode cX10_indexOf 9 = .ok (.if_icmp .gt 10, 3) := by decide +kernel
theorem dX10_indexOf_12 : decode cX10_indexOf 12 = .ok (.iload_n 0, 1) := by decide +kernel
theorem dX10_indexOf_13 : decode cX10_indexOf 13 = .ok (.bipush 97, 2) := by decide +kernel
theorem dX10_indexOf_15 : decode cX10_indexOf 15 = .ok (.isub, 1) := by decide +kernel
theorem dX10_indexOf_16 : decode cX10_indexOf 16 = .ok (.goto 5, 3) := by decide +kernel
theorem dX10_indexOf_19 : decode cX10_indexOf 19 = .ok (.bipush 26, 2) := by decide +kernel
theorem dX10_indexOf_21 : decode cX10_indexOf 21 = .ok (.ireturn, 1) := by decide +kernel
theorem dX10_beginRun_0 : decode cX10_beginRun 0 = .ok (.iconst 0, 1) := by decide +kernel
theorem dX10_beginRun_1 : decode cX10_beginRun 1 = .ok (.istore_n 2, 1) := by decide +kernel
theorem dX10_beginRun_2 : decode cX10_beginRun 2 = .ok (.iload_n 2, 1) := by decide +kernel
theorem dX10_beginRun_3 : decode cX10_beginRun 3 = .ok (.iconst 2, 1) := by decide +kernel
theorem dX10_beginRun_4 : decode cX10_beginRun 4 = .ok (.if_icmp .ge 37, 3) := by decide +kernel
theorem dX10_beginRun_7 : decode cX10_beginRun 7 = .ok (.aload_n 0, 1) := by decide +kernel
theorem dX10_beginRun_8 : decode cX10_beginRun 8 = .ok (.getfield 23, 3) := by decide +kernel
theorem dX10_beginRun_11 : decode cX10_beginRun 11 = .ok (.iload_n 2, 1) := by decide +kernel
theorem dX10_beginRun_12 : decode cX10_beginRun 12 = .ok (.iload_n 1, 1) := by decide +kernel
theorem dX10_beginRun_13 : decode cX10_beginRun 13 = .ok (.ifCond .eq 12, 3) := by decide +kernel
theorem dX10_beginRun_16 : decode cX10_beginRun 16 = .ok (.aload_n 0, 1) := by decide +kernel
theorem dX10_beginRun_17 : decode cX10_beginRun 17 = .ok (.getfield 16, 3) := by decide +kernel
theorem dX10_beginRun_20 : decode cX10_beginRun 20 = .ok (.iload_n 2, 1) := by decide +kernel
theorem dX10_beginRun_21 : decode cX10_beginRun 21 = .ok (.laload, 1) := by decide +kernel
theorem dX10_beginRun_22 : decode cX10_beginRun 22 = .ok (.goto 12, 3) := by decide +kernel
theorem dX10_beginRun_25 : decode cX10_beginRun 25 = .ok (.aload_n 0, 1) := by decide +kernel
theorem dX10_beginRun_26 : decode cX10_beginRun 26 = .ok (.getfield 13, 3) := by decide +kernel
theorem dX10_beginRun_29 : decode cX10_beginRun 29 = .ok (.iload_n 2, 1) := by decide +kernel
theorem dX10_beginRun_30 : decode cX10_beginRun 30 = .ok (.aaload, 1) := by decide +kernel
theorem dX10_beginRun_31 : decode cX10_beginRun 31 = .ok (.bipush 26, 2) := by decide +kernel
theorem dX10_beginRun_33 : decode cX10_beginRun 33 = .ok (.laload, 1) := by decide +kernel
theorem dX10_beginRun_34 : decode cX10_beginRun 34 = .ok (.lastore, 1) := by decide +kernel
theorem dX10_beginRun_35 : decode cX10_beginRun 35 = .ok (.iinc 2 1, 3) := by decide +kernel
theorem dX10_beginRun_38 : decode cX10_beginRun 38 = .ok (.goto (-36), 3) := by decide +kernel
theorem dX10_beginRun_41 : decode cX10_beginRun 41 = .ok (.return_, 1) := by decide +kernel
theorem dX10_nextSign_0 : decode cX10_nextSign 0 = .ok (.iload_n 1, 1) := by decide +kernel
theorem dX10_nextSign_1 : decode cX10_nextSign 1 = .ok (.invokestatic 42, 3) := by decide +kernel
theorem dX10_nextSign_4 : decode cX10_nextSign 4 = .ok (.istore_n 2, 1) := by decide +kernel
theorem dX10_nextSign_5 : decode cX10_nextSign 5 = .ok (.iconst 0, 1) := by decide +kernel
theorem dX10_nextSign_6 : decode cX10_nextSign 6 = .ok (.istore_n 3, 1) := by decide +kernel
theorem dX10_nextSign_7 : decode cX10_nextSign 7 = .ok (.iload_n 3, 1) := by decide +kernel
theorem dX10_nextSign_8 : decode cX10_nextSign 8 = .ok (.iconst 2, 1) := by decide +kernel
theorem dX10_nextSign_9 : decode cX10_nextSign 9 = .ok (.if_icmp .ge 55, 3) := by decide +kernel
theorem dX10_nextSign_12 : decode cX10_nextSign 12 = .ok (.aload_n 0, 1) := by decide +kernel
theorem dX10_nextSign_13 : decode cX10_nextSign 13 = .ok (.getfield 26, 3) := by decide +kernel
theorem dX10_nextSign_16 : decode cX10_nextSign 16 = .ok (.iload_n 3, 1) := by decide +kernel
theorem dX10_nextSign_17 : decode cX10_nextSign 17 = .ok (.aload_n 0, 1) := by decide +kernel
theorem dX10_nextSign_18 : decode cX10_nextSign 18 = .ok (.getfield 23, 3) := by decide +kernel
theorem dX10_nextSign_21 : decode cX10_nextSign 21 = .ok (.iload_n 3, 1) := by decide +kernel
theorem dX10_nextSign_22 : decode cX10_nextSign 22 = .ok (.laload, 1) := by decide +kernel
theorem dX10_nextSign_23 : decode cX10_nextSign 23 = .ok (.aload_n 0, 1) := by decide +kernel
theorem dX10_nextSign_24 : decode cX10_nextSign 24 = .ok (.getfield 13, 3) := by decide +kernel
theorem dX10_nextSign_27 : decode cX10_nextSign 27 = .ok (.iload_n 3, 1) := by decide +kernel
theorem dX10_nextSign_28 : decode cX10_nextSign 28 = .ok (.aaload, 1) := by decide +kernel
theorem dX10_nextSign_29 : decode cX10_nextSign 29 = .ok (.iload_n 2, 1) := by decide +kernel
theorem dX10_nextSign_30 : decode cX10_nextSign 30 = .ok (.laload, 1) := by decide +kernel
theorem dX10_nextSign_31 : decode cX10_nextSign 31 = .ok (.land, 1) := by decide +kernel
theorem dX10_nextSign_32 : decode cX10_nextSign 32 = .ok (.lastore, 1) := by decide +kernel
theorem dX10_nextSign_33 : decode cX10_nextSign 33 = .ok (.aload_n 0, 1) := by decide +kernel
theorem dX10_nextSign_34 : decode cX10_nextSign 34 = .ok (.getfield 23, 3) := by decide +kernel
theorem dX10_nextSign_37 : decode cX10_nextSign 37 = .ok (.iload_n 3, 1) := by decide +kernel
theorem dX10_nextSign_38 : decode cX10_nextSign 38 = .ok (.aload_n 0, 1) := by decide +kernel
theorem dX10_nextSign_39 : decode cX10_nextSign 39 = .ok (.getfield 26, 3) := by decide +kernel
theorem dX10_nextSign_42 : decode cX10_nextSign 42 = .ok (.iload_n 3, 1) := by decide +kernel
theorem dX10_nextSign_43 : decode cX10_nextSign 43 = .ok (.laload, 1) := by decide +kernel
theorem dX10_nextSign_44 : decode cX10_nextSign 44 = .ok (.iconst 1, 1) := by decide +kernel
theorem dX10_nextSign_45 : decode cX10_nextSign 45 = .ok (.lshl, 1) := by decide +kernel
theorem dX10_nextSign_46 : decode cX10_nextSign 46 = .ok (.aload_n 0, 1) := by decide +kernel
theorem dX10_nextSign_47 : decode cX10_nextSign 47 = .ok (.getfield 16, 3) := by decide +kernel
theorem dX10_nextSign_50 : decode cX10_nextSign 50 = .ok (.iload_n 3, 1) := by decide +kernel
theorem dX10_nextSign_51 : decode cX10_nextSign 51 = .ok (.laload, 1) := by decide +kernel
theorem dX10_nextSign_52 : decode cX10_nextSign 52 = .ok (.ldc2_w 46, 3) := by decide +kernel
theorem dX10_nextSign_55 : decode cX10_nextSign 55 = .ok (.lxor, 1) := by decide +kernel
theorem dX10_nextSign_56 : decode cX10_nextSign 56 = .ok (.land, 1) := by decide +kernel
theorem dX10_nextSign_57 : decode cX10_nextSign 57 = .ok (.lastore, 1) := by decide +kernel
theorem dX10_nextSign_58 : decode cX10_nextSign 58 = .ok (.iinc 3 1, 3) := by decide +kernel
theorem dX10_nextSign_61 : decode cX10_nextSign 61 = .ok (.goto (-54), 3) := by decide +kernel
theorem dX10_nextSign_64 : decode cX10_nextSign 64 = .ok (.return_, 1) := by decide +kernel
theorem dX10_endRun_0 : decode cX10_endRun 0 = .ok (.iload_n 1, 1) := by decide +kernel
theorem dX10_endRun_1 : decode cX10_endRun 1 = .ok (.ifCond .eq 31, 3) := by decide +kernel
theorem dX10_endRun_4 : decode cX10_endRun 4 = .ok (.iconst 0, 1) := by decide +kernel
theorem dX10_endRun_5 : decode cX10_endRun 5 = .ok (.istore_n 2, 1) := by decide +kernel
theorem dX10_endRun_6 : decode cX10_endRun 6 = .ok (.iload_n 2, 1) := by decide +kernel
theorem dX10_endRun_7 : decode cX10_endRun 7 = .ok (.iconst 2, 1) := by decide +kernel
theorem dX10_endRun_8 : decode cX10_endRun 8 = .ok (.if_icmp .ge 24, 3) := by decide +kernel
theorem dX10_endRun_11 : decode cX10_endRun 11 = .ok (.aload_n 0, 1) := by decide +kernel
theorem dX10_endRun_12 : decode cX10_endRun 12 = .ok (.getfield 26, 3) := by decide +kernel
theorem dX10_endRun_15 : decode cX10_endRun 15 = .ok (.iload_n 2, 1) := by decide +kernel
theorem dX10_endRun_16 : decode cX10_endRun 16 = .ok (.dup2, 1) := by decide +kernel
theorem dX10_endRun_17 : decode cX10_endRun 17 = .ok (.laload, 1) := by decide +kernel
theorem dX10_endRun_18 : decode cX10_endRun 18 = .ok (.aload_n 0, 1) := by decide +kernel
theorem dX10_endRun_19 : decode cX10_endRun 19 = .ok (.getfield 20, 3) := by decide +kernel
theorem dX10_endRun_22 : decode cX10_endRun 22 = .ok (.iload_n 2, 1) := by decide +kernel
theorem dX10_endRun_23 : decode cX10_endRun 23 = .ok (.laload, 1) := by decide +kernel
theorem dX10_endRun_24 : decode cX10_endRun 24 = .ok (.land, 1) := by decide +kernel
theorem dX10_endRun_25 : decode cX10_endRun 25 = .ok (.lastore, 1) := by decide +kernel
theorem dX10_endRun_26 : decode cX10_endRun 26 = .ok (.iinc 2 1, 3) := by decide +kernel
theorem dX10_endRun_29 : decode cX10_endRun 29 = .ok (.goto (-23), 3) := by decide +kernel
theorem dX10_endRun_32 : decode cX10_endRun 32 = .ok (.return_, 1) := by decide +kernel
theorem dX10_canBeSome_0 : decode cX10_canBeSome 0 = .ok (.aload_n 0, 1) := by decide +kernel
theorem dX10_canBeSome_1 : decode cX10_canBeSome 1 = .ok (.getfield 29, 3) := by decide +kernel
theorem dX10_canBeSome_4 : decode cX10_canBeSome 4 = .ok (.ifCond .eq 25, 3) := by decide +kernel
theorem dX10_canBeSome_7 : decode cX10_canBeSome 7 = .ok (.aload_n 0, 1) := by decide +kernel
theorem dX10_canBeSome_8 : decode cX10_canBeSome 8 = .ok (.getfield 26, 3) := by decide +kernel
theorem dX10_canBeSome_11 : decode cX10_canBeSome 11 = .ok (.iconst 0, 1) := by decide +kernel
theorem dX10_canBeSome_12 : decode cX10_canBeSome 12 = .ok (.laload, 1) := by decide +kernel
theorem dX10_canBeSome_13 : decode cX10_canBeSome 13 = .ok (.lconst 0, 1) := by decide +kernel
theorem dX10_canBeSome_14 : decode cX10_canBeSome 14 = .ok (.lcmp, 1) := by decide +kernel
theorem dX10_canBeSome_15 : decode cX10_canBeSome 15 = .ok (.ifCond .ne 14, 3) := by decide +kernel
theorem dX10_canBeSome_18 : decode cX10_canBeSome 18 = .ok (.aload_n 0, 1) := by decide +kernel
theorem dX10_canBeSome_19 : decode cX10_canBeSome 19 = .ok (.getfield 26, 3) := by decide +kernel
theorem dX10_canBeSome_22 : decode cX10_canBeSome 22 = .ok (.iconst 1, 1) := by decide +kernel
theorem dX10_canBeSome_23 : decode cX10_canBeSome 23 = .ok (.laload, 1) := by decide +kernel
theorem dX10_canBeSome_24 : decode cX10_canBeSome 24 = .ok (.lconst 0, 1) := by decide +kernel
theorem dX10_canBeSome_25 : decode cX10_canBeSome 25 = .ok (.lcmp, 1) := by decide +kernel
theorem dX10_canBeSome_26 : decode cX10_canBeSome 26 = .ok (.ifCond .eq 7, 3) := by decide +kernel
theorem dX10_canBeSome_29 : decode cX10_canBeSome 29 = .ok (.iconst 1, 1) := by decide +kernel
theorem dX10_canBeSome_30 : decode cX10_canBeSome 30 = .ok (.goto 4, 3) := by decide +kernel
theorem dX10_canBeSome_33 : decode cX10_canBeSome 33 = .ok (.iconst 0, 1) := by decide +kernel
theorem dX10_canBeSome_34 : decode cX10_canBeSome 34 = .ok (.ireturn, 1) := by decide +kernel
theorem dX10_canBe_0 : decode cX10_canBe 0 = .ok (.iload_n 1, 1) := by decide +kernel
theorem dX10_canBe_1 : decode cX10_canBe 1 = .ok (.ifCond .lt 11, 3) := by decide +kernel
theorem dX10_canBe_4 : decode cX10_canBe 4 = .ok (.iload_n 1, 1) := by decide +kernel
theorem dX10_canBe_5 : decode cX10_canBe 5 = .ok (.aload_n 0, 1) := by decide +kernel
theorem dX10_canBe_6 : decode cX10_canBe 6 = .ok (.getfield 29, 3) := by decide +kernel
theorem dX10_canBe_9 : decode cX10_canBe 9 = .ok (.if_icmp .lt 5, 3) := by decide +kernel
theorem dX10_canBe_12 : decode cX10_canBe 12 = .ok (.iconst 0, 1) := by decide +kernel
theorem dX10_canBe_13 : decode cX10_canBe 13 = .ok (.ireturn, 1) := by decide +kernel
theorem dX10_canBe_14 : decode cX10_canBe 14 = .ok (.aload_n 0, 1) := by decide +kernel
theorem dX10_canBe_15 : decode cX10_canBe 15 = .ok (.getfield 26, 3) := by decide +kernel
theorem dX10_canBe_18 : decode cX10_canBe 18 = .ok (.iload_n 1, 1) := by decide +kernel
theorem dX10_canBe_19 : decode cX10_canBe 19 = .ok (.bipush 6, 2) := by decide +kernel
theorem dX10_canBe_21 : decode cX10_canBe 21 = .ok (.idiv, 1) := by decide +kernel
theorem dX10_canBe_22 : decode cX10_canBe 22 = .ok (.laload, 1) := by decide +kernel
theorem dX10_canBe_23 : decode cX10_canBe 23 = .ok (.iload_n 1, 1) := by decide +kernel
theorem dX10_canBe_24 : decode cX10_canBe 24 = .ok (.bipush 6, 2) := by decide +kernel
theorem dX10_canBe_26 : decode cX10_canBe 26 = .ok (.irem, 1) := by decide +kernel
theorem dX10_canBe_27 : decode cX10_canBe 27 = .ok (.bipush 10, 2) := by decide +kernel
theorem dX10_canBe_29 : decode cX10_canBe 29 = .ok (.imul, 1) := by decide +kernel
theorem dX10_canBe_30 : decode cX10_canBe 30 = .ok (.lushr, 1) := by decide +kernel
theorem dX10_canBe_31 : decode cX10_canBe 31 = .ok (.lstore_n 2, 1) := by decide +kernel
theorem dX10_canBe_32 : decode cX10_canBe 32 = .ok (.lload_n 2, 1) := by decide +kernel
theorem dX10_canBe_33 : decode cX10_canBe 33 = .ok (.ldc2_w 48, 3) := by decide +kernel
theorem dX10_canBe_36 : decode cX10_canBe 36 = .ok (.land, 1) := by decide +kernel
theorem dX10_canBe_37 : decode cX10_canBe 37 = .ok (.lconst 0, 1) := by decide +kernel
theorem dX10_canBe_38 : decode cX10_canBe 38 = .ok (.lcmp, 1) := by decide +kernel
theorem dX10_canBe_39 : decode cX10_canBe 39 = .ok (.ifCond .eq 7, 3) := by decide +kernel
theorem dX10_canBe_42 : decode cX10_canBe 42 = .ok (.iconst 1, 1) := by decide +kernel
theorem dX10_canBe_43 : decode cX10_canBe 43 = .ok (.goto 4, 3) := by decide +kernel
theorem dX10_canBe_46 : decode cX10_canBe 46 = .ok (.iconst 0, 1) := by decide +kernel
theorem dX10_canBe_47 : decode cX10_canBe 47 = .ok (.ireturn, 1) := by decide +kernel
theorem dX11_init_0 : decode cX11_init 0 = .ok (.aload_n 0, 1) := by decide +kernel
theorem dX11_init_1 : decode cX11_init 1 = .ok (.invokespecial 3, 3) := by decide +kernel
theorem dX11_init_4 : decode cX11_init 4 = .ok (.aload_n 0, 1) := by decide +kernel
theorem dX11_init_5 : decode cX11_init 5 = .ok (.new 9, 3) := by decide +kernel
theorem dX11_init_8 : decode cX11_init 8 = .ok (.dup, 1) := by decide +kernel
theorem dX11_init_9 : decode cX11_init 9 = .ok (.invokespecial 11, 3) := by decide +kernel
theorem dX11_init_12 : decode cX11_init 12 = .ok (.putfield 12, 3) := by decide +kernel
theorem dX11_init_15 : decode cX11_init 15 = .ok (.aload_n 0, 1) := by decide +kernel
theorem dX11_init_16 : decode cX11_init 16 = .ok (.bipush 10, 2) := by decide +kernel
theorem dX11_init_18 : decode cX11_init 18 = .ok (.anewarray 16, 3) := by decide +kernel
theorem dX11_init_21 : decode cX11_init 21 = .ok (.putfield 18, 3) := by decide +kernel
theorem dX11_init_24 : decode cX11_init 24 = .ok (.iconst 0, 1) := by decide +kernel
theorem dX11_init_25 : decode cX11_init 25 = .ok (.istore_n 1, 1) := by decide +kernel
theorem dX11_init_26 : decode cX11_init 26 = .ok (.iload_n 1, 1) := by decide +kernel
theorem dX11_init_27 : decode cX11_init 27 = .ok (.bipush 10, 2) := by decide +kernel
theorem dX11_init_29 : decode cX11_init 29 = .ok (.if_icmp .ge 23, 3) := by decide +kernel
theorem dX11_init_32 : decode cX11_init 32 = .ok (.aload_n 0, 1) := by decide +kernel
theorem dX11_init_33 : decode cX11_init 33 = .ok (.getfield 18, 3) := by decide +kernel
theorem dX11_init_36 : decode cX11_init 36 = .ok (.iload_n 1, 1) := by decide +kernel
theorem dX11_init_37 : decode cX11_init 37 = .ok (.new 16, 3) := by decide +kernel
theorem dX11_init_40 : decode cX11_init 40 = .ok (.dup, 1) := by decide +kernel
theorem dX11_init_41 : decode cX11_init 41 = .ok (.iload_n 1, 1) := by decide +kernel
theorem dX11_init_42 : decode cX11_init 42 = .ok (.invokespecial 22, 3) := by decide +kernel
theorem dX11_init_45 : decode cX11_init 45 = .ok (.aastore, 1) := by decide +kernel
theorem dX11_init_46 : decode cX11_init 46 = .ok (.iinc 1 1, 3) := by decide +kernel
theorem dX11_init_49 : decode cX11_init 49 = .ok (.goto (-23), 3) := by decide +kernel
theorem dX11_init_52 : decode cX11_init 52 = .ok (.aload_n 0, 1) := by decide +kernel
theorem dX11_init_53 : decode cX11_init 53 = .ok (.new 25, 3) := by decide +kernel
theorem dX11_init_56 : decode cX11_init 56 = .ok (.dup, 1) := by decide +kernel
theorem dX11_init_57 : decode cX11_init 57 = .ok (.invokespecial 27, 3) := by decide +kernel
theorem dX11_init_60 : decode cX11_init 60 = .ok (.putfield 28, 3) := by decide +kernel
theorem dX11_init_63 : decode cX11_init 63 = .ok (.aload_n 0, 1) := by decide +kernel
theorem dX11_init_64 : decode cX11_init 64 = .ok (.new 32, 3) := by decide +kernel
theorem dX11_init_67 : decode cX11_init 67 = .ok (.dup, 1) := by decide +kernel
theorem dX11_init_68 : decode cX11_init 68 = .ok (.invokespecial 34, 3) := by decide +kernel
theorem dX11_init_71 : decode cX11_init 71 = .ok (.putfield 35, 3) := by decide +kernel
theorem dX11_init_74 : decode cX11_init 74 = .ok (.aload_n 0, 1) := by decide +kernel
theorem dX11_init_75 : decode cX11_init 75 = .ok (.new 39, 3) := by decide +kernel
theorem dX11_init_78 : decode cX11_init 78 = .ok (.dup, 1) := by decide +kernel
theorem dX11_init_79 : decode cX11_init 79 = .ok (.invokespecial 41, 3) := by decide +kernel
theorem dX11_init_82 : decode cX11_init 82 = .ok (.putfield 42, 3) := by decide +kernel
theorem dX11_init_85 : decode cX11_init 85 = .ok (.aload_n 0, 1) := by decide +kernel
theorem dX11_init_86 : decode cX11_init 86 = .ok (.new 46, 3) := by decide +kernel
theorem dX11_init_89 : decode cX11_init 89 = .ok (.dup, 1) := by decide +kernel
theorem dX11_init_90 : decode cX11_init 90 = .ok (.invokespecial 48, 3) := by decide +kernel
theorem dX11_init_93 : decode cX11_init 93 = .ok (.putfield 49, 3) := by decide +kernel
theorem dX11_init_96 : decode cX11_init 96 = .ok (.aload_n 0, 1) := by decide +kernel
theorem dX11_init_97 : decode cX11_init 97 = .ok (.new 53, 3) := by decide +kernel
theorem dX11_init_100 : decode cX11_init 100 = .ok (.dup, 1) := by decide +kernel
theorem dX11_init_101 : decode cX11_init 101 = .ok (.invokespecial 55, 3) := by decide +kernel
theorem dX11_init_104 : decode cX11_init 104 = .ok (.putfield 56, 3) := by decide +kernel
theorem dX11_init_107 : decode cX11_init 107 = .ok (.return_, 1) := by decide +kernel
theorem dX11_feed_0 : decode cX11_feed 0 = .ok (.aload_n 0, 1) := by decide +kernel
theorem dX11_feed_1 : decode cX11_feed 1 = .ok (.getfield 12, 3) := by decide +kernel
theorem dX11_feed_4 : decode cX11_feed 4 = .ok (.getfield 60, 3) := by decide +kernel
theorem dX11_feed_7 : decode cX11_feed 7 = .ok (.bipush 20, 2) := by decide +kernel
theorem dX11_feed_9 : decode cX11_feed 9 = .ok (.iadd, 1) := by decide +kernel
theorem dX11_feed_10 : decode cX11_feed 10 = .ok (.sipush 200, 3) := by decide +kernel
theorem dX11_feed_13 : decode cX11_feed 13 = .ok (.if_icmp .le 5, 3) := by decide +kernel
theorem dX11_feed_16 : decode cX11_feed 16 = .ok (.iconst (-1), 1) := by decide +kernel
theorem dX11_feed_17 : decode cX11_feed 17 = .ok (.ireturn, 1) := by decide +kernel
theorem dX11_feed_18 : decode cX11_feed 18 = .ok (.aload_n 0, 1) := by decide +kernel
theorem dX11_feed_19 : decode cX11_feed 19 = .ok (.getfield 12, 3) := by decide +kernel
theorem dX11_feed_22 : decode cX11_feed 22 = .ok (.iload_n 1, 1) := by decide +kernel
theorem dX11_feed_23 : decode cX11_feed 23 = .ok (.invokevirtual 64, 3) := by decide +kernel
theorem dX11_feed_26 : decode cX11_feed 26 = .ok (.aload_n 0, 1) := by decide +kernel
theorem dX11_feed_27 : decode cX11_feed 27 = .ok (.getfield 12, 3) := by decide +kernel
theorem dX11_feed_30 : decode cX11_feed 30 = .ok (.iload_n 2, 1) := by decide +kernel
theorem dX11_feed_31 : decode cX11_feed 31 = .ok (.invokevirtual 64, 3) := by decide +kernel
theorem dX11_feed_34 : decode cX11_feed 34 = .ok (.aload_n 0, 1) := by decide +kernel
theorem dX11_feed_35 : decode cX11_feed 35 = .ok (.getfield 12, 3) := by decide +kernel
theorem dX11_feed_38 : decode cX11_feed 38 = .ok (.iload_n 3, 1) := by decide +kernel
theorem dX11_feed_39 : decode cX11_feed 39 = .ok (.invokevirtual 64, 3) := by decide +kernel
theorem dX11_feed_42 : decode cX11_feed 42 = .ok (.aload_n 0, 1) := by decide +kernel
theorem dX11_feed_43 : decode cX11_feed 43 = .ok (.getfield 12, 3) := by decide +kernel
theorem dX11_feed_46 : decode cX11_feed 46 = .ok (.iload 4, 2) := by decide +kernel
theorem dX11_feed_48 : decode cX11_feed 48 = .ok (.invokevirtual 64, 3) := by decide +kernel
theorem dX11_feed_51 : decode cX11_feed 51 = .ok (.aload_n 0, 1) := by decide +kernel
theorem dX11_feed_52 : decode cX11_feed 52 = .ok (.getfield 12, 3) := by decide +kernel
theorem dX11_feed_55 : decode cX11_feed 55 = .ok (.iload 5, 2) := by decide +kernel
theorem dX11_feed_57 : decode cX11_feed 57 = .ok (.invokevirtual 64, 3) := by decide +kernel
theorem dX11_feed_60 : decode cX11_feed 60 = .ok (.aload_n 0, 1) := by decide +kernel
theorem dX11_feed_61 : decode cX11_feed 61 = .ok (.getfield 12, 3) := by decide +kernel
theorem dX11_feed_64 : decode cX11_feed 64 = .ok (.getfield 60, 3) := by decide +kernel
theorem dX11_feed_67 : decode cX11_feed 67 = .ok (.ireturn, 1) := by decide +kernel
theorem dX11_end_0 : decode cX11_end 0 = .ok (.iload_n 1, 1) := by decide +kernel
theorem dX11_end_1 : decode cX11_end 1 = .ok (.ifCond .lt 14, 3) := by decide +kernel
theorem dX11_end_4 : decode cX11_end 4 = .ok (.iload_n 1, 1) := by decide +kernel
theorem dX11_end_5 : decode cX11_end 5 = .ok (.aload_n 0, 1) := by decide +kernel
theorem dX11_end_6 : decode cX11_end 6 = .ok (.getfield 12, 3) := by decide +kernel
theorem dX11_end_9 : decode cX11_end 9 = .ok (.getfield 60, 3) := by decide +kernel
theorem dX11_end_12 : decode cX11_end 12 = .ok (.if_icmp .le 5, 3) := by decide +kernel
theorem dX11_end_15 : decode cX11_end 15 = .ok (.iconst 0, 1) := by decide +kernel
theorem dX11_end_16 : decode cX11_end 16 = .ok (.ireturn, 1) := by decide +kernel
theorem dX11_end_17 : decode cX11_end 17 = .ok (.aload_n 0, 1) := by decide +kernel
theorem dX11_end_18 : decode cX11_end 18 = .ok (.getfield 12, 3) := by decide +kernel
theorem dX11_end_21 : decode cX11_end 21 = .ok (.iload_n 1, 1) := by decide +kernel
theorem dX11_end_22 : decode cX11_end 22 = .ok (.putfield 60, 3) := by decide +kernel
theorem dX11_end_25 : decode cX11_end 25 = .ok (.iconst 1, 1) := by decide +kernel
theorem dX11_end_26 : decode cX11_end 26 = .ok (.ireturn, 1) := by decide +kernel
theorem dX11_bit_0 : decode cX11_bit 0 = .ok (.iload_n 1, 1) := by decide +kernel
theorem dX11_bit_1 : decode cX11_bit 1 = .ok (.ifCond .lt 9, 3) := by decide +kernel
theorem dX11_bit_4 : decode cX11_bit 4 = .ok (.iload_n 1, 1) := by decide +kernel
theorem dX11_bit_5 : decode cX11_bit 5 = .ok (.bipush 10, 2) := by decide +kernel
theorem dX11_bit_7 : decode cX11_bit 7 = .ok (.if_icmp .lt 7, 3) := by decide +kernel
theorem dX11_bit_10 : decode cX11_bit 10 = .ok (.iconst (-1), 1) := by decide +kernel
theorem dX11_bit_11 : decode cX11_bit 11 = .ok (.goto 10, 3) := by decide +kernel
theorem dX11_bit_14 : decode cX11_bit 14 = .ok (.aload_n 0, 1) := by decide +kernel
theorem dX11_bit_15 : decode cX11_bit 15 = .ok (.getfield 12, 3) := by decide +kernel
theorem dX11_bit_18 : decode cX11_bit 18 = .ok (.invokestatic 67, 3) := by decide +kernel
theorem dX11_bit_21 : decode cX11_bit 21 = .ok (.istore_n 2, 1) := by decide +kernel
theorem dX11_bit_22 : decode cX11_bit 22 = .ok (.iload_n 2, 1) := by decide +kernel
theorem dX11_bit_23 : decode cX11_bit 23 = .ok (.iconst (-1), 1) := by decide +kernel
theorem dX11_bit_24 : decode cX11_bit 24 = .ok (.if_icmp .eq 33, 3) := by decide +kernel
theorem dX11_bit_27 : decode cX11_bit 27 = .ok (.aload_n 0, 1) := by decide +kernel
theorem dX11_bit_28 : decode cX11_bit 28 = .ok (.getfield 18, 3) := by decide +kernel
theorem dX11_bit_31 : decode cX11_bit 31 = .ok (.iload_n 1, 1) := by decide +kernel
theorem dX11_bit_32 : decode cX11_bit 32 = .ok (.aaload, 1) := by decide +kernel
theorem dX11_bit_33 : decode cX11_bit 33 = .ok (.astore_n 3, 1) := by decide +kernel
theorem dX11_bit_34 : decode cX11_bit 34 = .ok (.aload_n 3, 1) := by decide +kernel
theorem dX11_bit_35 : decode cX11_bit 35 = .ok (.getfield 71, 3) := by decide +kernel
theorem dX11_bit_38 : decode cX11_bit 38 = .ok (.ifCond .eq 11, 3) := by decide +kernel
theorem dX11_bit_41 : decode cX11_bit 41 = .ok (.aload_n 0, 1) := by decide +kernel
theorem dX11_bit_42 : decode cX11_bit 42 = .ok (.getfield 35, 3) := by decide +kernel
theorem dX11_bit_45 : decode cX11_bit 45 = .ok (.aload_n 3, 1) := by decide +kernel
theorem dX11_bit_46 : decode cX11_bit 46 = .ok (.invokevirtual 75, 3) := by decide +kernel
theorem dX11_bit_49 : decode cX11_bit 49 = .ok (.aload_n 3, 1) := by decide +kernel
theorem dX11_bit_50 : decode cX11_bit 50 = .ok (.aload_n 0, 1) := by decide +kernel
theorem dX11_bit_51 : decode cX11_bit 51 = .ok (.getfield 12, 3) := by decide +kernel
theorem dX11_bit_54 : decode cX11_bit 54 = .ok (.invokevirtual 79, 3) := by decide +kernel
theorem dX11_bit_57 : decode cX11_bit 57 = .ok (.aload_n 0, 1) := by decide +kernel
theorem dX11_bit_58 : decode cX11_bit 58 = .ok (.getfield 12, 3) := by decide +kernel
theorem dX11_bit_61 : decode cX11_bit 61 = .ok (.iconst 0, 1) := by decide +kernel
theorem dX11_bit_62 : decode cX11_bit 62 = .ok (.putfield 60, 3) := by decide +kernel
theorem dX11_bit_65 : decode cX11_bit 65 = .ok (.iload_n 2, 1) := by decide +kernel
theorem dX11_bit_66 : decode cX11_bit 66 = .ok (.ireturn, 1) := by decide +kernel
theorem dX11_cell_0 : decode cX11_cell 0 = .ok (.aload_n 0, 1) := by decide +kernel
theorem dX11_cell_1 : decode cX11_cell 1 = .ok (.iload_n 1, 1) := by decide +kernel
theorem dX11_cell_2 : decode cX11_cell 2 = .ok (.invokevirtual 83, 3) := by decide +kernel
theorem dX11_cell_5 : decode cX11_cell 5 = .ok (.astore 4, 2) := by decide +kernel
theorem dX11_cell_7 : decode cX11_cell 7 = .ok (.aload 4, 2) := by decide +kernel
theorem dX11_cell_9 : decode cX11_cell 9 = .ok (.ifnull 22, 3) := by decide +kernel
theorem dX11_cell_12 : decode cX11_cell 12 = .ok (.iload_n 2, 1) := by decide +kernel
theorem dX11_cell_13 : decode cX11_cell 13 = .ok (.ifCond .lt 18, 3) := by decide +kernel
theorem dX11_cell_16 : decode cX11_cell 16 = .ok (.iload_n 2, 1) := by decide +kernel
theorem dX11_cell_17 : decode cX11_cell 17 = .ok (.iconst 5, 1) := by decide +kernel
theorem dX11_cell_18 : decode cX11_cell 18 = .ok (.if_icmp .ge 13, 3) := by decide +kernel
theorem dX11_cell_21 : decode cX11_cell 21 = .ok (.iload_n 3, 1) := by decide +kernel
theorem dX11_cell_22 : decode cX11_cell 22 = .ok (.ifCond .lt 9, 3) := by decide +kernel
theorem dX11_cell_25 : decode cX11_cell 25 = .ok (.iload_n 3, 1) := by decide +kernel
theorem dX11_cell_26 : decode cX11_cell 26 = .ok (.bipush 10, 2) := by decide +kernel
theorem dX11_cell_28 : decode cX11_cell 28 = .ok (.if_icmp .lt 5, 3) := by decide +kernel
theorem dX11_cell_31 : decode cX11_cell 31 = .ok (.iconst (-1), 1) := by decide +kernel
theorem dX11_cell_32 : decode cX11_cell 32 = .ok (.ireturn, 1) := by decide +kernel
theorem dX11_cell_33 : decode cX11_cell 33 = .ok (.aload 4, 2) := by decide +kernel
theorem dX11_cell_35 : decode cX11_cell 35 = .ok (.getfield 87, 3) := by decide +kernel
theorem dX11_cell_38 : decode cX11_cell 38 = .ok (.iload_n 2, 1) := by decide +kernel
theorem dX11_cell_39 : decode cX11_cell 39 = .ok (.bipush 10, 2) := by decide +kernel
theorem dX11_cell_41 : decode cX11_cell 41 = .ok (.imul, 1) := by decide +kernel
theorem dX11_cell_42 : decode cX11_cell 42 = .ok (.iload_n 3, 1) := by decide +kernel
theorem dX11_cell_43 : decode cX11_cell 43 = .ok (.iadd, 1) := by decide +kernel
theorem dX11_cell_44 : decode cX11_cell 44 = .ok (.iaload, 1) := by decide +kernel
theorem dX11_cell_45 : decode cX11_cell 45 = .ok (.ireturn, 1) := by decide +kernel
theorem dX11_fibre_0 : decode cX11_fibre 0 = .ok (.aload_n 0, 1) := by decide +kernel
theorem dX11_fibre_1 : decode cX11_fibre 1 = .ok (.iload_n 1, 1) := by decide +kernel
theorem dX11_fibre_2 : decode cX11_fibre 2 = .ok (.invokevirtual 83, 3) := by decide +kernel
theorem dX11_fibre_5 : decode cX11_fibre 5 = .ok (.astore 5, 2) := by decide +kernel
theorem dX11_fibre_7 : decode cX11_fibre 7 = .ok (.aload 5, 2) := by decide +kernel
theorem dX11_fibre_9 : decode cX11_fibre 9 = .ok (.ifnull 23, 3) := by decide +kernel
theorem dX11_fibre_12 : decode cX11_fibre 12 = .ok (.aload 5, 2) := by decide +kernel
theorem dX11_fibre_14 : decode cX11_fibre 14 = .ok (.getfield 71, 3) := by decide +kernel
theorem dX11_fibre_17 : decode cX11_fibre 17 = .ok (.ifCond .ne 15, 3) := by decide +kernel
theorem dX11_fibre_20 : decode cX11_fibre 20 = .ok (.iload 4, 2) := by decide +kernel
theorem dX11_fibre_22 : decode cX11_fibre 22 = .ok (.ifCond .lt 10, 3) := by decide +kernel
theorem dX11_fibre_25 : decode cX11_fibre 25 = .ok (.iload 4, 2) := by decide +kernel
theorem dX11_fibre_27 : decode cX11_fibre 27 = .ok (.bipush 99, 2) := by decide +kernel
theorem dX11_fibre_29 : decode cX11_fibre 29 = .ok (.if_icmp .le 5, 3) := by decide +kernel
theorem dX11_fibre_32 : decode cX11_fibre 32 = .ok (.iconst (-1), 1) := by decide +kernel
theorem dX11_fibre_33 : decode cX11_fibre 33 = .ok (.ireturn, 1) := by decide +kernel
theorem dX11_fibre_34 : decode cX11_fibre 34 = .ok (.iload_n 2, 1) := by decide +kernel
theorem dX11_fibre_35 : decode cX11_fibre 35 = .ok (.ifCond .eq 11, 3) := by decide +kernel
theorem dX11_fibre_38 : decode cX11_fibre 38 = .ok (.aload 5, 2) := by decide +kernel
theorem dX11_fibre_40 : decode cX11_fibre 40 = .ok (.getfield 91, 3) := by decide +kernel
theorem dX11_fibre_43 : decode cX11_fibre 43 = .ok (.goto 8, 3) := by decide +kernel
theorem dX11_fibre_46 : decode cX11_fibre 46 = .ok (.aload 5, 2) := by decide +kernel
theorem dX11_fibre_48 : decode cX11_fibre 48 = .ok (.getfield 95, 3) := by decide +kernel
theorem dX11_fibre_51 : decode cX11_fibre 51 = .ok (.astore 6, 2) := by decide +kernel
theorem dX11_fibre_53 : decode cX11_fibre 53 = .ok (.iload_n 3, 1) := by decide +kernel
theorem dX11_fibre_54 : decode cX11_fibre 54 = .ok (.ifCond .lt 13, 3) := by decide +kernel
theorem dX11_fibre_57 : decode cX11_fibre 57 = .ok (.iload_n 3, 1) := by decide +kernel
theorem dX11_fibre_58 : decode cX11_fibre 58 = .ok (.aload 6, 2) := by decide +kernel
theorem dX11_fibre_60 : decode cX11_fibre 60 = .ok (.getfield 98, 3) := by decide +kernel
theorem dX11_fibre_63 : decode cX11_fibre 63 = .ok (.arraylength, 1) := by decide +kernel
theorem dX11_fibre_64 : decode cX11_fibre 64 = .ok (.if_icmp .lt 5, 3) := by decide +kernel
theorem dX11_fibre_67 : decode cX11_fibre 67 = .ok (.iconst (-1), 1) := by decide +kernel
theorem dX11_fibre_68 : decode cX11_fibre 68 = .ok (.ireturn, 1) := by decide +kernel
theorem dX11_fibre_69 : decode cX11_fibre 69 = .ok (.aload 6, 2) := by decide +kernel
theorem dX11_fibre_71 : decode cX11_fibre 71 = .ok (.getfield 98, 3) := by decide +kernel
theorem dX11_fibre_74 : decode cX11_fibre 74 = .ok (.iload_n 3, 1) := by decide +kernel
theorem dX11_fibre_75 : decode cX11_fibre 75 = .ok (.iaload, 1) := by decide +kernel
theorem dX11_fibre_76 : decode cX11_fibre 76 = .ok (.istore 7, 2) := by decide +kernel
theorem dX11_fibre_78 : decode cX11_fibre 78 = .ok (.aload 6, 2) := by decide +kernel
theorem dX11_fibre_80 : decode cX11_fibre 80 = .ok (.getfield 98, 3) := by decide +kernel
theorem dX11_fibre_83 : decode cX11_fibre 83 = .ok (.iload_n 3, 1) := by decide +kernel
theorem dX11_fibre_84 : decode cX11_fibre 84 = .ok (.iload 4, 2) := by decide +kernel
theorem dX11_fibre_86 : decode cX11_fibre 86 = .ok (.iastore, 1) := by decide +kernel
theorem dX11_fibre_87 : decode cX11_fibre 87 = .ok (.iload 7, 2) := by decide +kernel
theorem dX11_fibre_89 : decode cX11_fibre 89 = .ok (.ireturn, 1) := by decide +kernel
theorem dX11_word_0 : decode cX11_word 0 = .ok (.aload_n 0, 1) := by decide +kernel
theorem dX11_word_1 : decode cX11_word 1 = .ok (.getfield 12, 3) := by decide +kernel
theorem dX11_word_4 : decode cX11_word 4 = .ok (.bipush 10, 2) := by decide +kernel
theorem dX11_word_6 : decode cX11_word 6 = .ok (.invokevirtual 103, 3) := by decide +kernel
theorem dX11_word_9 : decode cX11_word 9 = .ok (.ifCond .eq 19, 3) := by decide +kernel
theorem dX11_word_12 : decode cX11_word 12 = .ok (.aload_n 0, 1) := by decide +kernel
theorem dX11_word_13 : decode cX11_word 13 = .ok (.getfield 28, 3) := by decide +kernel
theorem dX11_word_16 : decode cX11_word 16 = .ok (.getfield 107, 3) := by decide +kernel
theorem dX11_word_19 : decode cX11_word 19 = .ok (.bipush 12, 2) := by decide +kernel
theorem dX11_word_21 : decode cX11_word 21 = .ok (.if_icmp .ge 7, 3) := by decide +kernel
theorem dX11_word_24 : decode cX11_word 24 = .ok (.iconst 1, 1) := by decide +kernel
theorem dX11_word_25 : decode cX11_word 25 = .ok (.goto 4, 3) := by decide +kernel
theorem dX11_word_28 : decode cX11_word 28 = .ok (.iconst 0, 1) := by decide +kernel
theorem dX11_word_29 : decode cX11_word 29 = .ok (.istore_n 1, 1) := by decide +kernel
theorem dX11_word_30 : decode cX11_word 30 = .ok (.iload_n 1, 1) := by decide +kernel
theorem dX11_word_31 : decode cX11_word 31 = .ok (.ifCond .eq 14, 3) := by decide +kernel
theorem dX11_word_34 : decode cX11_word 34 = .ok (.aload_n 0, 1) := by decide +kernel
theorem dX11_word_35 : decode cX11_word 35 = .ok (.getfield 28, 3) := by decide +kernel
theorem dX11_word_38 : decode cX11_word 38 = .ok (.aload_n 0, 1) := by decide +kernel
theorem dX11_word_39 : decode cX11_word 39 = .ok (.getfield 12, 3) := by decide +kernel
theorem dX11_word_42 : decode cX11_word 42 = .ok (.invokevirtual 110, 3) := by decide +kernel
theorem dX11_word_45 : decode cX11_word 45 = .ok (.aload_n 0, 1) := by decide +kernel
theorem dX11_word_46 : decode cX11_word 46 = .ok (.getfield 12, 3) := by decide +kernel
theorem dX11_word_49 : decode cX11_word 49 = .ok (.iconst 0, 1) := by decide +kernel
theorem dX11_word_50 : decode cX11_word 50 = .ok (.putfield 60, 3) := by decide +kernel
theorem dX11_word_53 : decode cX11_word 53 = .ok (.iload_n 1, 1) := by decide +kernel
theorem dX11_word_54 : decode cX11_word 54 = .ok (.ifCond .eq 13, 3) := by decide +kernel
theorem dX11_word_57 : decode cX11_word 57 = .ok (.aload_n 0, 1) := by decide +kernel
theorem dX11_word_58 : decode cX11_word 58 = .ok (.getfield 28, 3) := by decide +kernel
theorem dX11_word_61 : decode cX11_word 61 = .ok (.getfield 107, 3) := by decide +kernel
theorem dX11_word_64 : decode cX11_word 64 = .ok (.goto 4, 3) := by decide +kernel
theorem dX11_word_67 : decode cX11_word 67 = .ok (.iconst (-1), 1) := by decide +kernel
theorem dX11_word_68 : decode cX11_word 68 = .ok (.ireturn, 1) := by decide +kernel
theorem dX11_lay_0 : decode cX11_lay 0 = .ok (.aload_n 0, 1) := by decide +kernel
theorem dX11_lay_1 : decode cX11_lay 1 = .ok (.iload_n 1, 1) := by decide +kernel
theorem dX11_lay_2 : decode cX11_lay 2 = .ok (.invokevirtual 83, 3) := by decide +kernel
theorem dX11_lay_5 : decode cX11_lay 5 = .ok (.astore 4, 2) := by decide +kernel
theorem dX11_lay_7 : decode cX11_lay 7 = .ok (.aload 4, 2) := by decide +kernel
theorem dX11_lay_9 : decode cX11_lay 9 = .ok (.ifnull 11, 3) := by decide +kernel
theorem dX11_lay_12 : decode cX11_lay 12 = .ok (.aload 4, 2) := by decide +kernel
theorem dX11_lay_14 : decode cX11_lay 14 = .ok (.getfield 71, 3) := by decide +kernel
theorem dX11_lay_17 : decode cX11_lay 17 = .ok (.ifCond .eq 5, 3) := by decide +kernel
theorem dX11_lay_20 : decode cX11_lay 20 = .ok (.iconst 0, 1) := by decide +kernel
theorem dX11_lay_21 : decode cX11_lay 21 = .ok (.ireturn, 1) := by decide +kernel
theorem dX11_lay_22 : decode cX11_lay 22 = .ok (.aload_n 0, 1) := by decide +kernel
theorem dX11_lay_23 : decode cX11_lay 23 = .ok (.getfield 35, 3) := by decide +kernel
theorem dX11_lay_26 : decode cX11_lay 26 = .ok (.aload 4, 2) := by decide +kernel
theorem dX11_lay_28 : decode cX11_lay 28 = .ok (.iload_n 2, 1) := by decide +kernel
theorem dX11_lay_29 : decode cX11_lay 29 = .ok (.iload_n 3, 1) := by decide +kernel
theorem dX11_lay_30 : decode cX11_lay 30 = .ok (.invokevirtual 112, 3) := by decide +kernel
theorem dX11_lay_33 : decode cX11_lay 33 = .ok (.ifCond .eq 54, 3) := by decide +kernel
theorem dX11_lay_36 : decode cX11_lay 36 = .ok (.aload_n 0, 1) := by decide +kernel
theorem dX11_lay_37 : decode cX11_lay 37 = .ok (.getfield 35, 3) := by decide +kernel
theorem dX11_lay_40 : decode cX11_lay 40 = .ok (.aload 4, 2) := by decide +kernel
theorem dX11_lay_42 : decode cX11_lay 42 = .ok (.iload_n 2, 1) := by decide +kernel
theorem dX11_lay_43 : decode cX11_lay 43 = .ok (.iload_n 3, 1) := by decide +kernel
theorem dX11_lay_44 : decode cX11_lay 44 = .ok (.invokevirtual 116, 3) := by decide +kernel
theorem dX11_lay_47 : decode cX11_lay 47 = .ok (.iconst (-1), 1) := by decide +kernel
theorem dX11_lay_48 : decode cX11_lay 48 = .ok (.if_icmp .eq 39, 3) := by decide +kernel
theorem dX11_lay_51 : decode cX11_lay 51 = .ok (.aload_n 0, 1) := by decide +kernel
theorem dX11_lay_52 : decode cX11_lay 52 = .ok (.getfield 35, 3) := by decide +kernel
theorem dX11_lay_55 : decode cX11_lay 55 = .ok (.aload_n 0, 1) := by decide +kernel
theorem dX11_lay_56 : decode cX11_lay 56 = .ok (.getfield 28, 3) := by decide +kernel
theorem dX11_lay_59 : decode cX11_lay 59 = .ok (.invokevirtual 120, 3) := by decide +kernel
theorem dX11_lay_62 : decode cX11_lay 62 = .ok (.ifCond .eq 25, 3) := by decide +kernel
theorem dX11_lay_65 : decode cX11_lay 65 = .ok (.aload_n 0, 1) := by decide +kernel
theorem dX11_lay_66 : decode cX11_lay 66 = .ok (.getfield 35, 3) := by decide +kernel
theorem dX11_lay_69 : decode cX11_lay 69 = .ok (.aload 4, 2) := by decide +kernel
theorem dX11_lay_71 : decode cX11_lay 71 = .ok (.iload_n 2, 1) := by decide +kernel
theorem dX11_lay_72 : decode cX11_lay 72 = .ok (.iload_n 3, 1) := by decide +kernel
theorem dX11_lay_73 : decode cX11_lay 73 = .ok (.aload_n 0, 1) := by decide +kernel
theorem dX11_lay_74 : decode cX11_lay 74 = .ok (.getfield 28, 3) := by decide +kernel
theorem dX11_lay_77 : decode cX11_lay 77 = .ok (.invokevirtual 124, 3) := by decide +kernel
theorem dX11_lay_80 : decode cX11_lay 80 = .ok (.ifCond .eq 7, 3) := by decide +kernel
theorem dX11_lay_83 : decode cX11_lay 83 = .ok (.iconst 1, 1) := by decide +kernel
theorem dX11_lay_84 : decode cX11_lay 84 = .ok (.goto 4, 3) := by decide +kernel
theorem dX11_lay_87 : decode cX11_lay 87 = .ok (.iconst 0, 1) := by decide +kernel
theorem dX11_lay_88 : decode cX11_lay 88 = .ok (.istore 5, 2) := by decide +kernel
theorem dX11_lay_90 : decode cX11_lay 90 = .ok (.iload 5, 2) := by decide +kernel
theorem dX11_lay_92 : decode cX11_lay 92 = .ok (.ifCond .eq 14, 3) := by decide +kernel
theorem dX11_lay_95 : decode cX11_lay 95 = .ok (.aload_n 0, 1) := by decide +kernel
theorem dX11_lay_96 : decode cX11_lay 96 = .ok (.getfield 35, 3) := by decide +kernel
theorem dX11_lay_99 : decode cX11_lay 99 = .ok (.aload 4, 2) := by decide +kernel
theorem dX11_lay_101 : decode cX11_lay 101 = .ok (.iload_n 2, 1) := by decide +kernel
theorem dX11_lay_102 : decode cX11_lay 102 = .ok (.iload_n 3, 1) := by decide +kernel
theorem dX11_lay_103 : decode cX11_lay 103 = .ok (.invokevirtual 128, 3) := by decide +kernel
theorem dX11_lay_106 : decode cX11_lay 106 = .ok (.iload 5, 2) := by decide +kernel
theorem dX11_lay_108 : decode cX11_lay 108 = .ok (.ireturn, 1) := by decide +kernel
theorem dX11_take_0 : decode cX11_take 0 = .ok (.aload_n 0, 1) := by decide +kernel
theorem dX11_take_1 : decode cX11_take 1 = .ok (.iload_n 1, 1) := by decide +kernel
theorem dX11_take_2 : decode cX11_take 2 = .ok (.invokevirtual 83, 3) := by decide +kernel
theorem dX11_take_5 : decode cX11_take 5 = .ok (.astore_n 2, 1) := by decide +kernel
theorem dX11_take_6 : decode cX11_take 6 = .ok (.aload_n 2, 1) := by decide +kernel
theorem dX11_take_7 : decode cX11_take 7 = .ok (.ifnull 10, 3) := by decide +kernel
theorem dX11_take_10 : decode cX11_take 10 = .ok (.aload_n 2, 1) := by decide +kernel
theorem dX11_take_11 : decode cX11_take 11 = .ok (.getfield 71, 3) := by decide +kernel
theorem dX11_take_14 : decode cX11_take 14 = .ok (.ifCond .ne 5, 3) := by decide +kernel
theorem dX11_take_17 : decode cX11_take 17 = .ok (.iconst 0, 1) := by decide +kernel
theorem dX11_take_18 : decode cX11_take 18 = .ok (.ireturn, 1) := by decide +kernel
theorem dX11_take_19 : decode cX11_take 19 = .ok (.aload_n 0, 1) := by decide +kernel
theorem dX11_take_20 : decode cX11_take 20 = .ok (.getfield 35, 3) := by decide +kernel
theorem dX11_take_23 : decode cX11_take 23 = .ok (.aload_n 2, 1) := by decide +kernel
theorem dX11_take_24 : decode cX11_take 24 = .ok (.invokevirtual 75, 3) := by decide +kernel
theorem dX11_take_27 : decode cX11_take 27 = .ok (.iconst 1, 1) := by decide +kernel
theorem dX11_take_28 : decode cX11_take 28 = .ok (.ireturn, 1) := by decide +kernel
theorem dX11_place_0 : decode cX11_place 0 = .ok (.aload_n 0, 1) := by decide +kernel
theorem dX11_place_1 : decode cX11_place 1 = .ok (.iload_n 1, 1) := by decide +kernel
theorem dX11_place_2 : decode cX11_place 2 = .ok (.invokevirtual 83, 3) := by decide +kernel
theorem dX11_place_5 : decode cX11_place 5 = .ok (.astore_n 3, 1) := by decide +kernel
theorem dX11_place_6 : decode cX11_place 6 = .ok (.aload_n 3, 1) := by decide +kernel
theorem dX11_place_7 : decode cX11_place 7 = .ok (.ifnull 19, 3) := by decide +kernel
theorem dX11_place_10 : decode cX11_place 10 = .ok (.aload_n 3, 1) := by decide +kernel
theorem dX11_place_11 : decode cX11_place 11 = .ok (.getfield 71, 3) := by decide +kernel
theorem dX11_place_14 : decode cX11_place 14 = .ok (.ifCond .eq 12, 3) := by decide +kernel
theorem dX11_place_17 : decode cX11_place 17 = .ok (.iload_n 2, 1) := by decide +kernel
theorem dX11_place_18 : decode cX11_place 18 = .ok (.ifCond .lt 8, 3) := by decide +kernel
theorem dX11_place_21 : decode cX11_place 21 = .ok (.iload_n 2, 1) := by decide +kernel
theorem dX11_place_22 : decode cX11_place 22 = .ok (.iconst 1, 1) := by decide +kernel
theorem dX11_place_23 : decode cX11_place 23 = .ok (.if_icmp .le 5, 3) := by decide +kernel
theorem dX11_place_26 : decode cX11_place 26 = .ok (.iconst (-1), 1) := by decide +kernel
theorem dX11_place_27 : decode cX11_place 27 = .ok (.ireturn, 1) := by decide +kernel
theorem dX11_place_28 : decode cX11_place 28 = .ok (.iload_n 2, 1) := by decide +kernel
theorem dX11_place_29 : decode cX11_place 29 = .ok (.ifCond .ne 10, 3) := by decide +kernel
theorem dX11_place_32 : decode cX11_place 32 = .ok (.aload_n 3, 1) := by decide +kernel
theorem dX11_place_33 : decode cX11_place 33 = .ok (.getfield 132, 3) := by decide +kernel
theorem dX11_place_36 : decode cX11_place 36 = .ok (.goto 7, 3) := by decide +kernel
theorem dX11_place_39 : decode cX11_place 39 = .ok (.aload_n 3, 1) := by decide +kernel
theorem dX11_place_40 : decode cX11_place 40 = .ok (.getfield 135, 3) := by decide +kernel
theorem dX11_place_43 : decode cX11_place 43 = .ok (.ireturn, 1) := by decide +kernel
theorem dX11_sheet_0 : decode cX11_sheet 0 = .ok (.iload_n 1, 1) := by decide +kernel
theorem dX11_sheet_1 : decode cX11_sheet 1 = .ok (.iload_n 2, 1) := by decide +kernel
theorem dX11_sheet_2 : decode cX11_sheet 2 = .ok (.invokestatic 138, 3) := by decide +kernel
theorem dX11_sheet_5 : decode cX11_sheet 5 = .ok (.ifCond .eq 15, 3) := by decide +kernel
theorem dX11_sheet_8 : decode cX11_sheet 8 = .ok (.aload_n 0, 1) := by decide +kernel
theorem dX11_sheet_9 : decode cX11_sheet 9 = .ok (.getfield 35, 3) := by decide +kernel
theorem dX11_sheet_12 : decode cX11_sheet 12 = .ok (.iload_n 1, 1) := by decide +kernel
theorem dX11_sheet_13 : decode cX11_sheet 13 = .ok (.iload_n 2, 1) := by decide +kernel
theorem dX11_sheet_14 : decode cX11_sheet 14 = .ok (.invokevirtual 142, 3) := by decide +kernel
theorem dX11_sheet_17 : decode cX11_sheet 17 = .ok (.goto 4, 3) := by decide +kernel
theorem dX11_sheet_20 : decode cX11_sheet 20 = .ok (.iconst (-1), 1) := by decide +kernel
theorem dX11_sheet_21 : decode cX11_sheet 21 = .ok (.ireturn, 1) := by decide +kernel
theorem dX11_whose_0 : decode cX11_whose 0 = .ok (.aload_n 0, 1) := by decide +kernel
theorem dX11_whose_1 : decode cX11_whose 1 = .ok (.getfield 35, 3) := by decide +kernel
theorem dX11_whose_4 : decode cX11_whose 4 = .ok (.iload_n 1, 1) := by decide +kernel
theorem dX11_whose_5 : decode cX11_whose 5 = .ok (.iload_n 2, 1) := by decide +kernel
theorem dX11_whose_6 : decode cX11_whose 6 = .ok (.invokevirtual 146, 3) := by decide +kernel
theorem dX11_whose_9 : decode cX11_whose 9 = .ok (.ireturn, 1) := by decide +kernel
theorem dX11_words_0 : decode cX11_words 0 = .ok (.aload_n 0, 1) := by decide +kernel
theorem dX11_words_1 : decode cX11_words 1 = .ok (.getfield 35, 3) := by decide +kernel
theorem dX11_words_4 : decode cX11_words 4 = .ok (.iload_n 1, 1) := by decide +kernel
theorem dX11_words_5 : decode cX11_words 5 = .ok (.iload_n 2, 1) := by decide +kernel
theorem dX11_words_6 : decode cX11_words 6 = .ok (.invokevirtual 142, 3) := by decide +kernel
theorem dX11_words_9 : decode cX11_words 9 = .ok (.invokestatic 149, 3) := by decide +kernel
theorem dX11_words_12 : decode cX11_words 12 = .ok (.ifCond .ne 5, 3) := by decide +kernel
theorem dX11_words_15 : decode cX11_words 15 = .ok (.iconst (-1), 1) := by decide +kernel
theorem dX11_words_16 : decode cX11_words 16 = .ok (.ireturn, 1) := by decide +kernel
theorem dX11_words_17 : decode cX11_words 17 = .ok (.aload_n 0, 1) := by decide +kernel
theorem dX11_words_18 : decode cX11_words 18 = .ok (.getfield 35, 3) := by decide +kernel
theorem dX11_words_21 : decode cX11_words 21 = .ok (.iload_n 1, 1) := by decide +kernel
theorem dX11_words_22 : decode cX11_words 22 = .ok (.iload_n 2, 1) := by decide +kernel
theorem dX11_words_23 : decode cX11_words 23 = .ok (.aload_n 0, 1) := by decide +kernel
theorem dX11_words_24 : decode cX11_words 24 = .ok (.getfield 28, 3) := by decide +kernel
theorem dX11_words_27 : decode cX11_words 27 = .ok (.invokevirtual 152, 3) := by decide +kernel
theorem dX11_words_30 : decode cX11_words 30 = .ok (.iconst 0, 1) := by decide +kernel
theorem dX11_words_31 : decode cX11_words 31 = .ok (.istore_n 3, 1) := by decide +kernel
theorem dX11_words_32 : decode cX11_words 32 = .ok (.iconst 0, 1) := by decide +kernel
theorem dX11_words_33 : decode cX11_words 33 = .ok (.istore 4, 2) := by decide +kernel
theorem dX11_words_35 : decode cX11_words 35 = .ok (.iload 4, 2) := by decide +kernel
theorem dX11_words_37 : decode cX11_words 37 = .ok (.aload_n 0, 1) := by decide +kernel
theorem dX11_words_38 : decode cX11_words 38 = .ok (.getfield 28, 3) := by decide +kernel
theorem dX11_words_41 : decode cX11_words 41 = .ok (.getfield 107, 3) := by decide +kernel
theorem dX11_words_44 : decode cX11_words 44 = .ok (.if_icmp .ge 24, 3) := by decide +kernel
theorem dX11_words_47 : decode cX11_words 47 = .ok (.aload_n 0, 1) := by decide +kernel
theorem dX11_words_48 : decode cX11_words 48 = .ok (.getfield 28, 3) := by decide +kernel
theorem dX11_words_51 : decode cX11_words 51 = .ok (.iload 4, 2) := by decide +kernel
theorem dX11_words_53 : decode cX11_words 53 = .ok (.invokevirtual 156, 3) := by decide +kernel
theorem dX11_words_56 : decode cX11_words 56 = .ok (.ifCond .eq 6, 3) := by decide +kernel
theorem dX11_words_59 : decode cX11_words 59 = .ok (.iinc 3 1, 3) := by decide +kernel
theorem dX11_words_62 : decode cX11_words 62 = .ok (.iinc 4 1, 3) := by decide +kernel
theorem dX11_words_65 : decode cX11_words 65 = .ok (.goto (-30), 3) := by decide +kernel
theorem dX11_words_68 : decode cX11_words 68 = .ok (.iload_n 3, 1) := by decide +kernel
theorem dX11_words_69 : decode cX11_words 69 = .ok (.ireturn, 1) := by decide +kernel
theorem dX11_read_0 : decode cX11_read 0 = .ok (.iload_n 3, 1) := by decide +kernel
theorem dX11_read_1 : decode cX11_read 1 = .ok (.ifCond .lt 18, 3) := by decide +kernel
theorem dX11_read_4 : decode cX11_read 4 = .ok (.aload_n 0, 1) := by decide +kernel
theorem dX11_read_5 : decode cX11_read 5 = .ok (.getfield 35, 3) := by decide +kernel
theorem dX11_read_8 : decode cX11_read 8 = .ok (.iload_n 1, 1) := by decide +kernel
theorem dX11_read_9 : decode cX11_read 9 = .ok (.iload_n 2, 1) := by decide +kernel
theorem dX11_read_10 : decode cX11_read 10 = .ok (.invokevirtual 142, 3) := by decide +kernel
theorem dX11_read_13 : decode cX11_read 13 = .ok (.invokestatic 149, 3) := by decide +kernel
theorem dX11_read_16 : decode cX11_read 16 = .ok (.ifCond .ne 5, 3) := by decide +kernel
theorem dX11_read_19 : decode cX11_read 19 = .ok (.iconst (-1), 1) := by decide +kernel
theorem dX11_read_20 : decode cX11_read 20 = .ok (.ireturn, 1) := by decide +kernel
theorem dX11_read_21 : decode cX11_read 21 = .ok (.aload_n 0, 1) := by decide +kernel
theorem dX11_read_22 : decode cX11_read 22 = .ok (.getfield 35, 3) := by decide +kernel
theorem dX11_read_25 : decode cX11_read 25 = .ok (.iload_n 1, 1) := by decide +kernel
theorem dX11_read_26 : decode cX11_read 26 = .ok (.iload_n 2, 1) := by decide +kernel
theorem dX11_read_27 : decode cX11_read 27 = .ok (.aload_n 0, 1) := by decide +kernel
theorem dX11_read_28 : decode cX11_read 28 = .ok (.getfield 28, 3) := by decide +kernel
theorem dX11_read_31 : decode cX11_read 31 = .ok (.invokevirtual 152, 3) := by decide +kernel
theorem dX11_read_34 : decode cX11_read 34 = .ok (.iconst 0, 1) := by decide +kernel
theorem dX11_read_35 : decode cX11_read 35 = .ok (.istore 4, 2) := by decide +kernel
theorem dX11_read_37 : decode cX11_read 37 = .ok (.iconst 0, 1) := by decide +kernel
theorem dX11_read_38 : decode cX11_read 38 = .ok (.istore 5, 2) := by decide +kernel
theorem dX11_read_40 : decode cX11_read 40 = .ok (.iload 5, 2) := by decide +kernel
theorem dX11_read_42 : decode cX11_read 42 = .ok (.aload_n 0, 1) := by decide +kernel
theorem dX11_read_43 : decode cX11_read 43 = .ok (.getfield 28, 3) := by decide +kernel
theorem dX11_read_46 : decode cX11_read 46 = .ok (.getfield 107, 3) := by decide +kernel
theorem dX11_read_49 : decode cX11_read 49 = .ok (.if_icmp .ge 33, 3) := by decide +kernel
theorem dX11_read_52 : decode cX11_read 52 = .ok (.aload_n 0, 1) := by decide +kernel
theorem dX11_read_53 : decode cX11_read 53 = .ok (.getfield 28, 3) := by decide +kernel
theorem dX11_read_56 : decode cX11_read 56 = .ok (.iload 5, 2) := by decide +kernel
theorem dX11_read_58 : decode cX11_read 58 = .ok (.invokevirtual 156, 3) := by decide +kernel
theorem dX11_read_61 : decode cX11_read 61 = .ok (.ifCond .eq 15, 3) := by decide +kernel
theorem dX11_read_64 : decode cX11_read 64 = .ok (.iload 4, 2) := by decide +kernel
theorem dX11_read_66 : decode cX11_read 66 = .ok (.iload_n 3, 1) := by decide +kernel
theorem dX11_read_67 : decode cX11_read 67 = .ok (.if_icmp .ne 6, 3) := by decide +kernel
theorem dX11_read_70 : decode cX11_read 70 = .ok (.iload 5, 2) := by decide +kernel
theorem dX11_read_72 : decode cX11_read 72 = .ok (.ireturn, 1) := by decide +kernel
theorem dX11_read_73 : decode cX11_read 73 = .ok (.iinc 4 1, 3) := by decide +kernel
theorem dX11_read_76 : decode cX11_read 76 = .ok (.iinc 5 1, 3) := by decide +kernel
theorem dX11_read_79 : decode cX11_read 79 = .ok (.goto (-39), 3) := by decide +kernel
theorem dX11_read_82 : decode cX11_read 82 = .ok (.iconst (-1), 1) := by decide +kernel
theorem dX11_read_83 : decode cX11_read 83 = .ok (.ireturn, 1) := by decide +kernel
theorem dX11_worth_0 : decode cX11_worth 0 = .ok (.aload_n 0, 1) := by decide +kernel
theorem dX11_worth_1 : decode cX11_worth 1 = .ok (.getfield 35, 3) := by decide +kernel
theorem dX11_worth_4 : decode cX11_worth 4 = .ok (.invokevirtual 159, 3) := by decide +kernel
theorem dX11_worth_7 : decode cX11_worth 7 = .ok (.ireturn, 1) := by decide +kernel
theorem dX11_join_0 : decode cX11_join 0 = .ok (.aload_n 0, 1) := by decide +kernel
theorem dX11_join_1 : decode cX11_join 1 = .ok (.iload_n 1, 1) := by decide +kernel
theorem dX11_join_2 : decode cX11_join 2 = .ok (.invokevirtual 163, 3) := by decide +kernel
theorem dX11_join_5 : decode cX11_join 5 = .ok (.astore_n 3, 1) := by decide +kernel
theorem dX11_join_6 : decode cX11_join 6 = .ok (.iload_n 2, 1) := by decide +kernel
theorem dX11_join_7 : decode cX11_join 7 = .ok (.iconst (-1), 1) := by decide +kernel
theorem dX11_join_8 : decode cX11_join 8 = .ok (.if_icmp .ne 7, 3) := by decide +kernel
theorem dX11_join_11 : decode cX11_join 11 = .ok (.aconst_null, 1) := by decide +kernel
theorem dX11_join_12 : decode cX11_join 12 = .ok (.goto 8, 3) := by decide +kernel
theorem dX11_join_15 : decode cX11_join 15 = .ok (.aload_n 0, 1) := by decide +kernel
theorem dX11_join_16 : decode cX11_join 16 = .ok (.iload_n 2, 1) := by decide +kernel
theorem dX11_join_17 : decode cX11_join 17 = .ok (.invokevirtual 163, 3) := by decide +kernel
theorem dX11_join_20 : decode cX11_join 20 = .ok (.astore 4, 2) := by decide +kernel
theorem dX11_join_22 : decode cX11_join 22 = .ok (.aload_n 3, 1) := by decide +kernel
theorem dX11_join_23 : decode cX11_join 23 = .ok (.ifnull 19, 3) := by decide +kernel
theorem dX11_join_26 : decode cX11_join 26 = .ok (.aload_n 3, 1) := by decide +kernel
theorem dX11_join_27 : decode cX11_join 27 = .ok (.aload 4, 2) := by decide +kernel
theorem dX11_join_29 : decode cX11_join 29 = .ok (.if_acmp .eq 13, 3) := by decide +kernel
theorem dX11_join_32 : decode cX11_join 32 = .ok (.aload 4, 2) := by decide +kernel
theorem dX11_join_34 : decode cX11_join 34 = .ok (.ifnonnull 10, 3) := by decide +kernel
theorem dX11_join_37 : decode cX11_join 37 = .ok (.iload_n 2, 1) := by decide +kernel
theorem dX11_join_38 : decode cX11_join 38 = .ok (.iconst (-1), 1) := by decide +kernel
theorem dX11_join_39 : decode cX11_join 39 = .ok (.if_icmp .eq 5, 3) := by decide +kernel
theorem dX11_join_42 : decode cX11_join 42 = .ok (.iconst (-1), 1) := by decide +kernel
theorem dX11_join_43 : decode cX11_join 43 = .ok (.ireturn, 1) := by decide +kernel
theorem dX11_join_44 : decode cX11_join 44 = .ok (.iconst 0, 1) := by decide +kernel
theorem dX11_join_45 : decode cX11_join 45 = .ok (.istore 5, 2) := by decide +kernel
theorem dX11_join_47 : decode cX11_join 47 = .ok (.aload 4, 2) := by decide +kernel
theorem dX11_join_49 : decode cX11_join 49 = .ok (.ifnonnull 24, 3) := by decide +kernel
theorem dX11_join_52 : decode cX11_join 52 = .ok (.aload_n 0, 1) := by decide +kernel
theorem dX11_join_53 : decode cX11_join 53 = .ok (.getfield 42, 3) := by decide +kernel
theorem dX11_join_56 : decode cX11_join 56 = .ok (.aload_n 3, 1) := by decide +kernel
theorem dX11_join_57 : decode cX11_join 57 = .ok (.aload_n 0, 1) := by decide +kernel
theorem dX11_join_58 : decode cX11_join 58 = .ok (.getfield 35, 3) := by decide +kernel
theorem dX11_join_61 : decode cX11_join 61 = .ok (.aload_n 0, 1) := by decide +kernel
theorem dX11_join_62 : decode cX11_join 62 = .ok (.getfield 28, 3) := by decide +kernel
theorem dX11_join_65 : decode cX11_join 65 = .ok (.invokevirtual 166, 3) := by decide +kernel
theorem dX11_join_68 : decode cX11_join 68 = .ok (.istore 5, 2) := by decide +kernel
theorem dX11_join_70 : decode cX11_join 70 = .ok (.goto 58, 3) := by decide +kernel
theorem dX11_join_73 : decode cX11_join 73 = .ok (.aload_n 3, 1) := by decide +kernel
theorem dX11_join_74 : decode cX11_join 74 = .ok (.getfield 170, 3) := by decide +kernel
theorem dX11_join_77 : decode cX11_join 77 = .ok (.aload 4, 2) := by decide +kernel
theorem dX11_join_79 : decode cX11_join 79 = .ok (.getfield 170, 3) := by decide +kernel
theorem dX11_join_82 : decode cX11_join 82 = .ok (.if_icmp .ge 26, 3) := by decide +kernel
theorem dX11_join_85 : decode cX11_join 85 = .ok (.aload_n 0, 1) := by decide +kernel
theorem dX11_join_86 : decode cX11_join 86 = .ok (.getfield 42, 3) := by decide +kernel
theorem dX11_join_89 : decode cX11_join 89 = .ok (.aload_n 3, 1) := by decide +kernel
theorem dX11_join_90 : decode cX11_join 90 = .ok (.aload 4, 2) := by decide +kernel
theorem dX11_join_92 : decode cX11_join 92 = .ok (.aload_n 0, 1) := by decide +kernel
theorem dX11_join_93 : decode cX11_join 93 = .ok (.getfield 35, 3) := by decide +kernel
theorem dX11_join_96 : decode cX11_join 96 = .ok (.aload_n 0, 1) := by decide +kernel
theorem dX11_join_97 : decode cX11_join 97 = .ok (.getfield 28, 3) := by decide +kernel
theorem dX11_join_100 : decode cX11_join 100 = .ok (.invokevirtual 173, 3) := by decide +kernel
theorem dX11_join_103 : decode cX11_join 103 = .ok (.istore 5, 2) := by decide +kernel
theorem dX11_join_105 : decode cX11_join 105 = .ok (.goto 23, 3) := by decide +kernel
theorem dX11_join_108 : decode cX11_join 108 = .ok (.aload_n 0, 1) := by decide +kernel
theorem dX11_join_109 : decode cX11_join 109 = .ok (.getfield 42, 3) := by decide +kernel
theorem dX11_join_112 : decode cX11_join 112 = .ok (.aload 4, 2) := by decide +kernel
theorem dX11_join_114 : decode cX11_join 114 = .ok (.aload_n 3, 1) := by decide +kernel
theorem dX11_join_115 : decode cX11_join 115 = .ok (.aload_n 0, 1) := by decide +kernel
theorem dX11_join_116 : decode cX11_join 116 = .ok (.getfield 35, 3) := by decide +kernel
theorem dX11_join_119 : decode cX11_join 119 = .ok (.aload_n 0, 1) := by decide +kernel
theorem dX11_join_120 : decode cX11_join 120 = .ok (.getfield 28, 3) := by decide +kernel
theorem dX11_join_123 : decode cX11_join 123 = .ok (.invokevirtual 173, 3) := by decide +kernel
theorem dX11_join_126 : decode cX11_join 126 = .ok (.istore 5, 2) := by decide +kernel
theorem dX11_join_128 : decode cX11_join 128 = .ok (.iload 5, 2) := by decide +kernel
theorem dX11_join_130 : decode cX11_join 130 = .ok (.ifCond .eq 13, 3) := by decide +kernel
theorem dX11_join_133 : decode cX11_join 133 = .ok (.aload_n 0, 1) := by decide +kernel
theorem dX11_join_134 : decode cX11_join 134 = .ok (.getfield 35, 3) := by decide +kernel
theorem dX11_join_137 : decode cX11_join 137 = .ok (.invokevirtual 159, 3) := by decide +kernel
theorem dX11_join_140 : decode cX11_join 140 = .ok (.goto 5, 3) := by decide +kernel
theorem dX11_join_143 : decode cX11_join 143 = .ok (.bipush (-2), 2) := by decide +kernel
theorem dX11_join_145 : decode cX11_join 145 = .ok (.ireturn, 1) := by decide +kernel
theorem dX11_joins_0 : decode cX11_joins 0 = .ok (.aload_n 0, 1) := by decide +kernel
theorem dX11_joins_1 : decode cX11_joins 1 = .ok (.iload_n 1, 1) := by decide +kernel
theorem dX11_joins_2 : decode cX11_joins 2 = .ok (.invokevirtual 163, 3) := by decide +kernel
theorem dX11_joins_5 : decode cX11_joins 5 = .ok (.astore_n 2, 1) := by decide +kernel
theorem dX11_joins_6 : decode cX11_joins 6 = .ok (.aload_n 2, 1) := by decide +kernel
theorem dX11_joins_7 : decode cX11_joins 7 = .ok (.ifnonnull 7, 3) := by decide +kernel
theorem dX11_joins_10 : decode cX11_joins 10 = .ok (.iconst (-1), 1) := by decide +kernel
theorem dX11_joins_11 : decode cX11_joins 11 = .ok (.goto 19, 3) := by decide +kernel
theorem dX11_joins_14 : decode cX11_joins 14 = .ok (.aload_n 0, 1) := by decide +kernel
theorem dX11_joins_15 : decode cX11_joins 15 = .ok (.getfield 42, 3) := by decide +kernel
theorem dX11_joins_18 : decode cX11_joins 18 = .ok (.aload_n 2, 1) := by decide +kernel
theorem dX11_joins_19 : decode cX11_joins 19 = .ok (.aload_n 0, 1) := by decide +kernel
theorem dX11_joins_20 : decode cX11_joins 20 = .ok (.getfield 35, 3) := by decide +kernel
theorem dX11_joins_23 : decode cX11_joins 23 = .ok (.aload_n 0, 1) := by decide +kernel
theorem dX11_joins_24 : decode cX11_joins 24 = .ok (.getfield 28, 3) := by decide +kernel
theorem dX11_joins_27 : decode cX11_joins 27 = .ok (.invokevirtual 177, 3) := by decide +kernel
theorem dX11_joins_30 : decode cX11_joins 30 = .ok (.ireturn, 1) := by decide +kernel
theorem dX11_roll_0 : decode cX11_roll 0 = .ok (.iload_n 1, 1) := by decide +kernel
theorem dX11_roll_1 : decode cX11_roll 1 = .ok (.iconst 1, 1) := by decide +kernel
theorem dX11_roll_2 : decode cX11_roll 2 = .ok (.if_icmp .lt 20, 3) := by decide +kernel
theorem dX11_roll_5 : decode cX11_roll 5 = .ok (.iload_n 1, 1) := by decide +kernel
theorem dX11_roll_6 : decode cX11_roll 6 = .ok (.sipush 1000, 3) := by decide +kernel
theorem dX11_roll_9 : decode cX11_roll 9 = .ok (.if_icmp .gt 13, 3) := by decide +kernel
theorem dX11_roll_12 : decode cX11_roll 12 = .ok (.iload_n 2, 1) := by decide +kernel
theorem dX11_roll_13 : decode cX11_roll 13 = .ok (.ifCond .lt 9, 3) := by decide +kernel
theorem dX11_roll_16 : decode cX11_roll 16 = .ok (.iload_n 2, 1) := by decide +kernel
theorem dX11_roll_17 : decode cX11_roll 17 = .ok (.bipush 100, 2) := by decide +kernel
theorem dX11_roll_19 : decode cX11_roll 19 = .ok (.if_icmp .le 5, 3) := by decide +kernel
theorem dX11_roll_22 : decode cX11_roll 22 = .ok (.iconst (-1), 1) := by decide +kernel
theorem dX11_roll_23 : decode cX11_roll 23 = .ok (.ireturn, 1) := by decide +kernel
theorem dX11_roll_24 : decode cX11_roll 24 = .ok (.aload_n 0, 1) := by decide +kernel
theorem dX11_roll_25 : decode cX11_roll 25 = .ok (.getfield 49, 3) := by decide +kernel
theorem dX11_roll_28 : decode cX11_roll 28 = .ok (.iload_n 1, 1) := by decide +kernel
theorem dX11_roll_29 : decode cX11_roll 29 = .ok (.iload_n 2, 1) := by decide +kernel
theorem dX11_roll_30 : decode cX11_roll 30 = .ok (.invokevirtual 181, 3) := by decide +kernel
theorem dX11_roll_33 : decode cX11_roll 33 = .ok (.aload_n 0, 1) := by decide +kernel
theorem dX11_roll_34 : decode cX11_roll 34 = .ok (.getfield 49, 3) := by decide +kernel
theorem dX11_roll_37 : decode cX11_roll 37 = .ok (.getfield 185, 3) := by decide +kernel
theorem dX11_roll_40 : decode cX11_roll 40 = .ok (.ireturn, 1) := by decide +kernel
theorem dX11_hole_0 : decode cX11_hole 0 = .ok (.aload_n 0, 1) := by decide +kernel
theorem dX11_hole_1 : decode cX11_hole 1 = .ok (.iload_n 1, 1) := by decide +kernel
theorem dX11_hole_2 : decode cX11_hole 2 = .ok (.invokevirtual 83, 3) := by decide +kernel
theorem dX11_hole_5 : decode cX11_hole 5 = .ok (.astore_n 3, 1) := by decide +kernel
theorem dX11_hole_6 : decode cX11_hole 6 = .ok (.aload_n 3, 1) := by decide +kernel
theorem dX11_hole_7 : decode cX11_hole 7 = .ok (.ifnull 14, 3) := by decide +kernel
theorem dX11_hole_10 : decode cX11_hole 10 = .ok (.iload_n 2, 1) := by decide +kernel
theorem dX11_hole_11 : decode cX11_hole 11 = .ok (.ifCond .lt 10, 3) := by decide +kernel
theorem dX11_hole_14 : decode cX11_hole 14 = .ok (.iload_n 2, 1) := by decide +kernel
theorem dX11_hole_15 : decode cX11_hole 15 = .ok (.sipush 2000, 3) := by decide +kernel
theorem dX11_hole_18 : decode cX11_hole 18 = .ok (.if_icmp .le 5, 3) := by decide +kernel
theorem dX11_hole_21 : decode cX11_hole 21 = .ok (.iconst (-1), 1) := by decide +kernel
theorem dX11_hole_22 : decode cX11_hole 22 = .ok (.ireturn, 1) := by decide +kernel
theorem dX11_hole_23 : decode cX11_hole 23 = .ok (.aload_n 3, 1) := by decide +kernel
theorem dX11_hole_24 : decode cX11_hole 24 = .ok (.iload_n 2, 1) := by decide +kernel
theorem dX11_hole_25 : decode cX11_hole 25 = .ok (.invokevirtual 186, 3) := by decide +kernel
theorem dX11_hole_28 : decode cX11_hole 28 = .ok (.ireturn, 1) := by decide +kernel
theorem dX11_stood_0 : decode cX11_stood 0 = .ok (.aload_n 0, 1) := by decide +kernel
theorem dX11_stood_1 : decode cX11_stood 1 = .ok (.iload_n 1, 1) := by decide +kernel
theorem dX11_stood_2 : decode cX11_stood 2 = .ok (.invokevirtual 83, 3) := by decide +kernel
theorem dX11_stood_5 : decode cX11_stood 5 = .ok (.astore_n 2, 1) := by decide +kernel
theorem dX11_stood_6 : decode cX11_stood 6 = .ok (.aload_n 2, 1) := by decide +kernel
theorem dX11_stood_7 : decode cX11_stood 7 = .ok (.ifnull 20, 3) := by decide +kernel
theorem dX11_stood_10 : decode cX11_stood 10 = .ok (.aload_n 2, 1) := by decide +kernel
theorem dX11_stood_11 : decode cX11_stood 11 = .ok (.getfield 190, 3) := by decide +kernel
theorem dX11_stood_14 : decode cX11_stood 14 = .ok (.ifCond .eq 13, 3) := by decide +kernel
theorem dX11_stood_17 : decode cX11_stood 17 = .ok (.aload_n 0, 1) := by decide +kernel
theorem dX11_stood_18 : decode cX11_stood 18 = .ok (.getfield 49, 3) := by decide +kernel
theorem dX11_stood_21 : decode cX11_stood 21 = .ok (.getfield 185, 3) := by decide +kernel
theorem dX11_stood_24 : decode cX11_stood 24 = .ok (.ifCond .ne 5, 3) := by decide +kernel
theorem dX11_stood_27 : decode cX11_stood 27 = .ok (.iconst (-1), 1) := by decide +kernel
theorem dX11_stood_28 : decode cX11_stood 28 = .ok (.ireturn, 1) := by decide +kernel
theorem dX11_stood_29 : decode cX11_stood 29 = .ok (.aload_n 0, 1) := by decide +kernel
theorem dX11_stood_30 : decode cX11_stood 30 = .ok (.getfield 49, 3) := by decide +kernel
theorem dX11_stood_33 : decode cX11_stood 33 = .ok (.aload_n 2, 1) := by decide +kernel
theorem dX11_stood_34 : decode cX11_stood 34 = .ok (.invokevirtual 193, 3) := by decide +kernel
theorem dX11_stood_37 : decode cX11_stood 37 = .ok (.ireturn, 1) := by decide +kernel
theorem dX11_standing_0 : decode cX11_standing 0 = .ok (.aload_n 0, 1) := by decide +kernel
theorem dX11_standing_1 : decode cX11_standing 1 = .ok (.iload_n 1, 1) := by decide +kernel
theorem dX11_standing_2 : decode cX11_standing 2 = .ok (.invokevirtual 83, 3) := by decide +kernel
theorem dX11_standing_5 : decode cX11_standing 5 = .ok (.astore_n 3, 1) := by decide +kernel
theorem dX11_standing_6 : decode cX11_standing 6 = .ok (.aload_n 3, 1) := by decide +kernel
theorem dX11_standing_7 : decode cX11_standing 7 = .ok (.ifnull 14, 3) := by decide +kernel
theorem dX11_standing_10 : decode cX11_standing 10 = .ok (.aload_n 3, 1) := by decide +kernel
theorem dX11_standing_11 : decode cX11_standing 11 = .ok (.getfield 190, 3) := by decide +kernel
theorem dX11_standing_14 : decode cX11_standing 14 = .ok (.ifCond .eq 7, 3) := by decide +kernel
theorem dX11_standing_17 : decode cX11_standing 17 = .ok (.iload_n 2, 1) := by decide +kernel
theorem dX11_standing_18 : decode cX11_standing 18 = .ok (.ifCond .ge 5, 3) := by decide +kernel
theorem dX11_standing_21 : decode cX11_standing 21 = .ok (.iconst (-1), 1) := by decide +kernel
theorem dX11_standing_22 : decode cX11_standing 22 = .ok (.ireturn, 1) := by decide +kernel
theorem dX11_standing_23 : decode cX11_standing 23 = .ok (.aload_n 0, 1) := by decide +kernel
theorem dX11_standing_24 : decode cX11_standing 24 = .ok (.getfield 49, 3) := by decide +kernel
theorem dX11_standing_27 : decode cX11_standing 27 = .ok (.aload_n 3, 1) := by decide +kernel
theorem dX11_standing_28 : decode cX11_standing 28 = .ok (.iload_n 2, 1) := by decide +kernel
theorem dX11_standing_29 : decode cX11_standing 29 = .ok (.invokevirtual 197, 3) := by decide +kernel
theorem dX11_standing_32 : decode cX11_standing 32 = .ok (.ireturn, 1) := by decide +kernel
theorem dX11_known_0 : decode cX11_known 0 = .ok (.aload_n 0, 1) := by decide +kernel
theorem dX11_known_1 : decode cX11_known 1 = .ok (.getfield 12, 3) := by decide +kernel
theorem dX11_known_4 : decode cX11_known 4 = .ok (.sipush 200, 3) := by decide +kernel
theorem dX11_known_7 : decode cX11_known 7 = .ok (.invokevirtual 103, 3) := by decide +kernel
theorem dX11_known_10 : decode cX11_known 10 = .ok (.istore_n 1, 1) := by decide +kernel
theorem dX11_known_11 : decode cX11_known 11 = .ok (.iload_n 1, 1) := by decide +kernel
theorem dX11_known_12 : decode cX11_known 12 = .ok (.ifCond .eq 14, 3) := by decide +kernel
theorem dX11_known_15 : decode cX11_known 15 = .ok (.aload_n 0, 1) := by decide +kernel
theorem dX11_known_16 : decode cX11_known 16 = .ok (.getfield 56, 3) := by decide +kernel
theorem dX11_known_19 : decode cX11_known 19 = .ok (.aload_n 0, 1) := by decide +kernel
theorem dX11_known_20 : decode cX11_known 20 = .ok (.getfield 12, 3) := by decide +kernel
theorem dX11_known_23 : decode cX11_known 23 = .ok (.invokevirtual 201, 3) := by decide +kernel
theorem dX11_known_26 : decode cX11_known 26 = .ok (.aload_n 0, 1) := by decide +kernel
theorem dX11_known_27 : decode cX11_known 27 = .ok (.getfield 12, 3) := by decide +kernel
theorem dX11_known_30 : decode cX11_known 30 = .ok (.iconst 0, 1) := by decide +kernel
theorem dX11_known_31 : decode cX11_known 31 = .ok (.putfield 60, 3) := by decide +kernel
theorem dX11_known_34 : decode cX11_known 34 = .ok (.iload_n 1, 1) := by decide +kernel
theorem dX11_known_35 : decode cX11_known 35 = .ok (.ifCond .eq 13, 3) := by decide +kernel
theorem dX11_known_38 : decode cX11_known 38 = .ok (.aload_n 0, 1) := by decide +kernel
theorem dX11_known_39 : decode cX11_known 39 = .ok (.getfield 56, 3) := by decide +kernel
theorem dX11_known_42 : decode cX11_known 42 = .ok (.getfield 202, 3) := by decide +kernel
theorem dX11_known_45 : decode cX11_known 45 = .ok (.goto 4, 3) := by decide +kernel
theorem dX11_known_48 : decode cX11_known 48 = .ok (.iconst (-1), 1) := by decide +kernel
theorem dX11_known_49 : decode cX11_known 49 = .ok (.ireturn, 1) := by decide +kernel
theorem dX11_stands_0 : decode cX11_stands 0 = .ok (.aload_n 0, 1) := by decide +kernel
theorem dX11_stands_1 : decode cX11_stands 1 = .ok (.iload_n 1, 1) := by decide +kernel
theorem dX11_stands_2 : decode cX11_stands 2 = .ok (.invokevirtual 83, 3) := by decide +kernel
theorem dX11_stands_5 : decode cX11_stands 5 = .ok (.astore_n 3, 1) := by decide +kernel
theorem dX11_stands_6 : decode cX11_stands 6 = .ok (.aload_n 3, 1) := by decide +kernel
theorem dX11_stands_7 : decode cX11_stands 7 = .ok (.ifnull 20, 3) := by decide +kernel
theorem dX11_stands_10 : decode cX11_stands 10 = .ok (.aload_n 0, 1) := by decide +kernel
theorem dX11_stands_11 : decode cX11_stands 11 = .ok (.getfield 56, 3) := by decide +kernel
theorem dX11_stands_14 : decode cX11_stands 14 = .ok (.getfield 202, 3) := by decide +kernel
theorem dX11_stands_17 : decode cX11_stands 17 = .ok (.ifCond .eq 10, 3) := by decide +kernel
theorem dX11_stands_20 : decode cX11_stands 20 = .ok (.iload_n 2, 1) := by decide +kernel
theorem dX11_stands_21 : decode cX11_stands 21 = .ok (.invokestatic 203, 3) := by decide +kernel
theorem dX11_stands_24 : decode cX11_stands 24 = .ok (.ifCond .ne 5, 3) := by decide +kernel
theorem dX11_stands_27 : decode cX11_stands 27 = .ok (.iconst (-1), 1) := by decide +kernel
theorem dX11_stands_28 : decode cX11_stands 28 = .ok (.ireturn, 1) := by decide +kernel
theorem dX11_stands_29 : decode cX11_stands 29 = .ok (.aload_n 0, 1) := by decide +kernel
theorem dX11_stands_30 : decode cX11_stands 30 = .ok (.getfield 56, 3) := by decide +kernel
theorem dX11_stands_33 : decode cX11_stands 33 = .ok (.aload_n 3, 1) := by decide +kernel
theorem dX11_stands_34 : decode cX11_stands 34 = .ok (.iload_n 2, 1) := by decide +kernel
theorem dX11_stands_35 : decode cX11_stands 35 = .ok (.invokevirtual 206, 3) := by decide +kernel
theorem dX11_stands_38 : decode cX11_stands 38 = .ok (.ireturn, 1) := by decide +kernel
theorem dX11_letter_0 : decode cX11_letter 0 = .ok (.aload_n 0, 1) := by decide +kernel
theorem dX11_letter_1 : decode cX11_letter 1 = .ok (.iload_n 1, 1) := by decide +kernel
theorem dX11_letter_2 : decode cX11_letter 2 = .ok (.invokevirtual 83, 3) := by decide +kernel
theorem dX11_letter_5 : decode cX11_letter 5 = .ok (.astore 4, 2) := by decide +kernel
theorem dX11_letter_7 : decode cX11_letter 7 = .ok (.aload 4, 2) := by decide +kernel
theorem dX11_letter_9 : decode cX11_letter 9 = .ok (.ifnull 14, 3) := by decide +kernel
theorem dX11_letter_12 : decode cX11_letter 12 = .ok (.iload_n 2, 1) := by decide +kernel
theorem dX11_letter_13 : decode cX11_letter 13 = .ok (.invokestatic 203, 3) := by decide +kernel
theorem dX11_letter_16 : decode cX11_letter 16 = .ok (.ifCond .eq 7, 3) := by decide +kernel
theorem dX11_letter_19 : decode cX11_letter 19 = .ok (.iload_n 3, 1) := by decide +kernel
theorem dX11_letter_20 : decode cX11_letter 20 = .ok (.ifCond .ge 7, 3) := by decide +kernel
theorem dX11_letter_23 : decode cX11_letter 23 = .ok (.sipush (-1000), 3) := by decide +kernel
theorem dX11_letter_26 : decode cX11_letter 26 = .ok (.ireturn, 1) := by decide +kernel
theorem dX11_letter_27 : decode cX11_letter 27 = .ok (.aload_n 0, 1) := by decide +kernel
theorem dX11_letter_28 : decode cX11_letter 28 = .ok (.getfield 56, 3) := by decide +kernel
theorem dX11_letter_31 : decode cX11_letter 31 = .ok (.aload 4, 2) := by decide +kernel
theorem dX11_letter_33 : decode cX11_letter 33 = .ok (.iload_n 2, 1) := by decide +kernel
theorem dX11_letter_34 : decode cX11_letter 34 = .ok (.iload_n 3, 1) := by decide +kernel
theorem dX11_letter_35 : decode cX11_letter 35 = .ok (.invokevirtual 209, 3) := by decide +kernel
theorem dX11_letter_38 : decode cX11_letter 38 = .ok (.ireturn, 1) := by decide +kernel
theorem dX11_width_0 : decode cX11_width 0 = .ok (.aload_n 0, 1) := by decide +kernel
theorem dX11_width_1 : decode cX11_width 1 = .ok (.iload_n 1, 1) := by decide +kernel
theorem dX11_width_2 : decode cX11_width 2 = .ok (.invokevirtual 83, 3) := by decide +kernel
theorem dX11_width_5 : decode cX11_width 5 = .ok (.astore 4, 2) := by decide +kernel
theorem dX11_width_7 : decode cX11_width 7 = .ok (.aload 4, 2) := by decide +kernel
theorem dX11_width_9 : decode cX11_width 9 = .ok (.ifnull 17, 3) := by decide +kernel
theorem dX11_width_12 : decode cX11_width 12 = .ok (.iload_n 2, 1) := by decide +kernel
theorem dX11_width_13 : decode cX11_width 13 = .ok (.invokestatic 203, 3) := by decide +kernel
theorem dX11_width_16 : decode cX11_width 16 = .ok (.ifCond .eq 10, 3) := by decide +kernel
theorem dX11_width_19 : decode cX11_width 19 = .ok (.iload_n 3, 1) := by decide +kernel
theorem dX11_width_20 : decode cX11_width 20 = .ok (.invokestatic 203, 3) := by decide +kernel
theorem dX11_width_23 : decode cX11_width 23 = .ok (.ifCond .ne 5, 3) := by decide +kernel
theorem dX11_width_26 : decode cX11_width 26 = .ok (.iconst (-1), 1) := by decide +kernel
theorem dX11_width_27 : decode cX11_width 27 = .ok (.ireturn, 1) := by decide +kernel
theorem dX11_width_28 : decode cX11_width 28 = .ok (.iconst (-1), 1) := by decide +kernel
theorem dX11_width_29 : decode cX11_width 29 = .ok (.istore 5, 2) := by decide +kernel
theorem dX11_width_31 : decode cX11_width 31 = .ok (.iconst 0, 1) := by decide +kernel
theorem dX11_width_32 : decode cX11_width 32 = .ok (.istore 6, 2) := by decide +kernel
theorem dX11_width_34 : decode cX11_width 34 = .ok (.iload_n 2, 1) := by decide +kernel
theorem dX11_width_35 : decode cX11_width 35 = .ok (.istore 7, 2) := by decide +kernel
theorem dX11_width_37 : decode cX11_width 37 = .ok (.iload 7, 2) := by decide +kernel
theorem dX11_width_39 : decode cX11_width 39 = .ok (.iload_n 3, 1) := by decide +kernel
theorem dX11_width_40 : decode cX11_width 40 = .ok (.if_icmp .gt 37, 3) := by decide +kernel
theorem dX11_width_43 : decode cX11_width 43 = .ok (.aload_n 0, 1) := by decide +kernel
theorem dX11_width_44 : decode cX11_width 44 = .ok (.getfield 56, 3) := by decide +kernel
theorem dX11_width_47 : decode cX11_width 47 = .ok (.aload 4, 2) := by decide +kernel
theorem dX11_width_49 : decode cX11_width 49 = .ok (.iload 7, 2) := by decide +kernel
theorem dX11_width_51 : decode cX11_width 51 = .ok (.invokevirtual 206, 3) := by decide +kernel
theorem dX11_width_54 : decode cX11_width 54 = .ok (.istore 8, 2) := by decide +kernel
theorem dX11_width_56 : decode cX11_width 56 = .ok (.iload 8, 2) := by decide +kernel
theorem dX11_width_58 : decode cX11_width 58 = .ok (.iload 6, 2) := by decide +kernel
theorem dX11_width_60 : decode cX11_width 60 = .ok (.if_icmp .le 11, 3) := by decide +kernel
theorem dX11_width_63 : decode cX11_width 63 = .ok (.iload 8, 2) := by decide +kernel
theorem dX11_width_65 : decode cX11_width 65 = .ok (.istore 6, 2) := by decide +kernel
theorem dX11_width_67 : decode cX11_width 67 = .ok (.iload 7, 2) := by decide +kernel
theorem dX11_width_69 : decode cX11_width 69 = .ok (.istore 5, 2) := by decide +kernel
theorem dX11_width_71 : decode cX11_width 71 = .ok (.iinc 7 1, 3) := by decide +kernel
theorem dX11_width_74 : decode cX11_width 74 = .ok (.goto (-37), 3) := by decide +kernel
theorem dX11_width_77 : decode cX11_width 77 = .ok (.iload 5, 2) := by decide +kernel
theorem dX11_width_79 : decode cX11_width 79 = .ok (.ireturn, 1) := by decide +kernel
theorem dX11_bitOf_0 : decode cX11_bitOf 0 = .ok (.iload_n 1, 1) := by decide +kernel
theorem dX11_bitOf_1 : decode cX11_bitOf 1 = .ok (.ifCond .lt 21, 3) := by decide +kernel
theorem dX11_bitOf_4 : decode cX11_bitOf 4 = .ok (.iload_n 1, 1) := by decide +kernel
theorem dX11_bitOf_5 : decode cX11_bitOf 5 = .ok (.bipush 10, 2) := by decide +kernel
theorem dX11_bitOf_7 : decode cX11_bitOf 7 = .ok (.if_icmp .ge 15, 3) := by decide +kernel
theorem dX11_bitOf_10 : decode cX11_bitOf 10 = .ok (.aload_n 0, 1) := by decide +kernel
theorem dX11_bitOf_11 : decode cX11_bitOf 11 = .ok (.getfield 18, 3) := by decide +kernel
theorem dX11_bitOf_14 : decode cX11_bitOf 14 = .ok (.iload_n 1, 1) := by decide +kernel
theorem dX11_bitOf_15 : decode cX11_bitOf 15 = .ok (.aaload, 1) := by decide +kernel
theorem dX11_bitOf_16 : decode cX11_bitOf 16 = .ok (.getfield 212, 3) := by decide +kernel
theorem dX11_bitOf_19 : decode cX11_bitOf 19 = .ok (.ifCond .ne 5, 3) := by decide +kernel
theorem dX11_bitOf_22 : decode cX11_bitOf 22 = .ok (.aconst_null, 1) := by decide +kernel
theorem dX11_bitOf_23 : decode cX11_bitOf 23 = .ok (.areturn, 1) := by decide +kernel
theorem dX11_bitOf_24 : decode cX11_bitOf 24 = .ok (.aload_n 0, 1) := by decide +kernel
theorem dX11_bitOf_25 : decode cX11_bitOf 25 = .ok (.getfield 18, 3) := by decide +kernel
theorem dX11_bitOf_28 : decode cX11_bitOf 28 = .ok (.iload_n 1, 1) := by decide +kernel
theorem dX11_bitOf_29 : decode cX11_bitOf 29 = .ok (.aaload, 1) := by decide +kernel
theorem dX11_bitOf_30 : decode cX11_bitOf 30 = .ok (.areturn, 1) := by decide +kernel
theorem dX11_looseBit_0 : decode cX11_looseBit 0 = .ok (.aload_n 0, 1) := by decide +kernel
theorem dX11_looseBit_1 : decode cX11_looseBit 1 = .ok (.iload_n 1, 1) := by decide +kernel
theorem dX11_looseBit_2 : decode cX11_looseBit 2 = .ok (.invokevirtual 83, 3) := by decide +kernel
theorem dX11_looseBit_5 : decode cX11_looseBit 5 = .ok (.astore_n 2, 1) := by decide +kernel
theorem dX11_looseBit_6 : decode cX11_looseBit 6 = .ok (.aload_n 2, 1) := by decide +kernel
theorem dX11_looseBit_7 : decode cX11_looseBit 7 = .ok (.ifnull 20, 3) := by decide +kernel
theorem dX11_looseBit_10 : decode cX11_looseBit 10 = .ok (.aload_n 2, 1) := by decide +kernel
theorem dX11_looseBit_11 : decode cX11_looseBit 11 = .ok (.getfield 71, 3) := by decide +kernel
theorem dX11_looseBit_14 : decode cX11_looseBit 14 = .ok (.ifCond .ne 13, 3) := by decide +kernel
theorem dX11_looseBit_17 : decode cX11_looseBit 17 = .ok (.aload_n 0, 1) := by decide +kernel
theorem dX11_looseBit_18 : decode cX11_looseBit 18 = .ok (.getfield 35, 3) := by decide +kernel
theorem dX11_looseBit_21 : decode cX11_looseBit 21 = .ok (.getfield 215, 3) := by decide +kernel
theorem dX11_looseBit_24 : decode cX11_looseBit 24 = .ok (.ifCond .ne 5, 3) := by decide +kernel
theorem dX11_looseBit_27 : decode cX11_looseBit 27 = .ok (.aconst_null, 1) := by decide +kernel
theorem dX11_looseBit_28 : decode cX11_looseBit 28 = .ok (.areturn, 1) := by decide +kernel
theorem dX11_looseBit_29 : decode cX11_looseBit 29 = .ok (.aload_n 2, 1) := by decide +kernel
theorem dX11_looseBit_30 : decode cX11_looseBit 30 = .ok (.areturn, 1) := by decide +kernel
theorem dX11_isWidth_0 : decode cX11_isWidth 0 = .ok (.iload_n 0, 1) := by decide +kernel
theorem dX11_isWidth_1 : decode cX11_isWidth 1 = .ok (.iconst 2, 1) := by decide +kernel
theorem dX11_isWidth_2 : decode cX11_isWidth 2 = .ok (.if_icmp .lt 13, 3) := by decide +kernel
theorem dX11_isWidth_5 : decode cX11_isWidth 5 = .ok (.iload_n 0, 1) := by decide +kernel
theorem dX11_isWidth_6 : decode cX11_isWidth 6 = .ok (.bipush 60, 2) := by decide +kernel
theorem dX11_isWidth_8 : decode cX11_isWidth 8 = .ok (.if_icmp .gt 7, 3) := by decide +kernel
theorem dX11_isWidth_11 : decode cX11_isWidth 11 = .ok (.iconst 1, 1) := by decide +kernel
theorem dX11_isWidth_12 : decode cX11_isWidth 12 = .ok (.goto 4, 3) := by decide +kernel
theorem dX11_isWidth_15 : decode cX11_isWidth 15 = .ok (.iconst 0, 1) := by decide +kernel
theorem dX11_isWidth_16 : decode cX11_isWidth 16 = .ok (.ireturn, 1) := by decide +kernel
theorem dX11_isLetter_0 : decode cX11_isLetter 0 = .ok (.iload_n 0, 1) := by decide +kernel
theorem dX11_isLetter_1 : decode cX11_isLetter 1 = .ok (.bipush 97, 2) := by decide +kernel
theorem dX11_isLetter_3 : decode cX11_isLetter 3 = .ok (.if_icmp .lt 13, 3) := by decide +kernel
theorem dX11_isLetter_6 : decode cX11_isLetter 6 = .ok (.iload_n 0, 1) := by decide +kernel
theorem dX11_isLetter_7 : decode cX11_isLetter 7 = .ok (.bipush 122, 2) := by decide +kernel
theorem dX11_isLetter_9 : decode cX11_isLetter 9 = .ok (.if_icmp .gt 7, 3) := by decide +kernel
theorem dX11_isLetter_12 : decode cX11_isLetter 12 = .ok (.iconst 1, 1) := by decide +kernel
theorem dX11_isLetter_13 : decode cX11_isLetter 13 = .ok (.goto 4, 3) := by decide +kernel
theorem dX11_isLetter_16 : decode cX11_isLetter 16 = .ok (.iconst 0, 1) := by decide +kernel
theorem dX11_isLetter_17 : decode cX11_isLetter 17 = .ok (.ireturn, 1) := by decide +kernel
theorem dX11_isText_0 : decode cX11_isText 0 = .ok (.iload_n 0, 1) := by decide +kernel
theorem dX11_isText_1 : decode cX11_isText 1 = .ok (.bipush 46, 2) := by decide +kernel
theorem dX11_isText_3 : decode cX11_isText 3 = .ok (.if_icmp .eq 15, 3) := by decide +kernel
theorem dX11_isText_6 : decode cX11_isText 6 = .ok (.iload_n 0, 1) := by decide +kernel
theorem dX11_isText_7 : decode cX11_isText 7 = .ok (.bipush 97, 2) := by decide +kernel
theorem dX11_isText_9 : decode cX11_isText 9 = .ok (.if_icmp .lt 13, 3) := by decide +kernel
theorem dX11_isText_12 : decode cX11_isText 12 = .ok (.iload_n 0, 1) := by decide +kernel
theorem dX11_isText_13 : decode cX11_isText 13 = .ok (.bipush 122, 2) := by decide +kernel
theorem dX11_isText_15 : decode cX11_isText 15 = .ok (.if_icmp .gt 7, 3) := by decide +kernel
theorem dX11_isText_18 : decode cX11_isText 18 = .ok (.iconst 1, 1) := by decide +kernel
theorem dX11_isText_19 : decode cX11_isText 19 = .ok (.goto 4, 3) := by decide +kernel
theorem dX11_isText_22 : decode cX11_isText 22 = .ok (.iconst 0, 1) := by decide +kernel
theorem dX11_isText_23 : decode cX11_isText 23 = .ok (.ireturn, 1) := by decide +kernel
theorem dJ9_floorMod_7cf53_0 : decode cJ9_floorMod_7cf53 0 = .ok (.iload_n 0, 1) := by decide +kernel
theorem dJ9_floorMod_7cf53_1 : decode cJ9_floorMod_7cf53 1 = .ok (.iload_n 1, 1) := by decide +kernel
theorem dJ9_floorMod_7cf53_2 : decode cJ9_floorMod_7cf53 2 = .ok (.irem, 1) := by decide +kernel
theorem dJ9_floorMod_7cf53_3 : decode cJ9_floorMod_7cf53 3 = .ok (.istore_n 2, 1) := by decide +kernel
theorem dJ9_floorMod_7cf53_4 : decode cJ9_floorMod_7cf53 4 = .ok (.iload_n 0, 1) := by decide +kernel
theorem dJ9_floorMod_7cf53_5 : decode cJ9_floorMod_7cf53 5 = .ok (.iload_n 1, 1) := by decide +kernel
theorem dJ9_floorMod_7cf53_6 : decode cJ9_floorMod_7cf53 6 = .ok (.ixor, 1) := by decide +kernel
theorem dJ9_floorMod_7cf53_7 : decode cJ9_floorMod_7cf53 7 = .ok (.ifCond .ge 11, 3) := by decide +kernel
theorem dJ9_floorMod_7cf53_10 : decode cJ9_floorMod_7cf53 10 = .ok (.iload_n 2, 1) := by decide +kernel
theorem dJ9_floorMod_7cf53_11 : decode cJ9_floorMod_7cf53 11 = .ok (.ifCond .eq 7, 3) := by decide +kernel
theorem dJ9_floorMod_7cf53_14 : decode cJ9_floorMod_7cf53 14 = .ok (.iload_n 2, 1) := by decide +kernel
theorem dJ9_floorMod_7cf53_15 : decode cJ9_floorMod_7cf53 15 = .ok (.iload_n 1, 1) := by decide +kernel
theorem dJ9_floorMod_7cf53_16 : decode cJ9_floorMod_7cf53 16 = .ok (.iadd, 1) := by decide +kernel
theorem dJ9_floorMod_7cf53_17 : decode cJ9_floorMod_7cf53 17 = .ok (.ireturn, 1) := by decide +kernel
theorem dJ9_floorMod_7cf53_18 : decode cJ9_floorMod_7cf53 18 = .ok (.iload_n 2, 1) := by decide +kernel
theorem dJ9_floorMod_7cf53_19 : decode cJ9_floorMod_7cf53 19 = .ok (.ireturn, 1) := by decide +kernel
theorem dJ9_max_7cf53_0 : decode cJ9_max_7cf53 0 = .ok (.iload_n 0, 1) := by decide +kernel
theorem dJ9_max_7cf53_1 : decode cJ9_max_7cf53 1 = .ok (.iload_n 1, 1) := by decide +kernel
theorem dJ9_max_7cf53_2 : decode cJ9_max_7cf53 2 = .ok (.if_icmp .lt 7, 3) := by decide +kernel
theorem dJ9_max_7cf53_5 : decode cJ9_max_7cf53 5 = .ok (.iload_n 0, 1) := by decide +kernel
theorem dJ9_max_7cf53_6 : decode cJ9_max_7cf53 6 = .ok (.goto 4, 3) := by decide +kernel
theorem dJ9_max_7cf53_9 : decode cJ9_max_7cf53 9 = .ok (.iload_n 1, 1) := by decide +kernel
theorem dJ9_max_7cf53_10 : decode cJ9_max_7cf53 10 = .ok (.ireturn, 1) := by decide +kernel
end
section
theorem dX12_init_0 : decode cX12_init 0 = .ok (.aload_n 0, 1) := by decide +kernel
theorem dX12_init_1 : decode cX12_init 1 = .ok (.invokespecial 1, 3) := by decide +kernel
theorem dX12_init_4 : decode cX12_init 4 = .ok (.aload_n 0, 1) := by decide +kernel
theorem dX12_init_5 : decode cX12_init 5 = .ok (.sipush 200, 3) := by decide +kernel
theorem dX12_init_8 : decode cX12_init 8 = .ok (.newarray .int, 2) := by decide +kernel
theorem dX12_init_10 : decode cX12_init 10 = .ok (.putfield 7, 3) := by decide +kernel
theorem dX12_init_13 : decode cX12_init 13 = .ok (.aload_n 0, 1) := by decide +kernel
theorem dX12_init_14 : decode cX12_init 14 = .ok (.bipush 10, 2) := by decide +kernel
theorem dX12_init_16 : decode cX12_init 16 = .ok (.newarray .boolean, 2) := by decide +kernel
theorem dX12_init_18 : decode cX12_init 18 = .ok (.putfield 13, 3) := by decide +kernel
theorem dX12_init_21 : decode cX12_init 21 = .ok (.aload_n 0, 1) := by decide +kernel
theorem dX12_init_22 : decode cX12_init 22 = .ok (.sipush 500, 3) := by decide +kernel
theorem dX12_init_25 : decode cX12_init 25 = .ok (.newarray .int, 2) := by decide +kernel
theorem dX12_init_27 : decode cX12_init 27 = .ok (.putfield 17, 3) := by decide +kernel
theorem dX12_init_30 : decode cX12_init 30 = .ok (.aload_n 0, 1) := by decide +kernel
theorem dX12_init_31 : decode cX12_init 31 = .ok (.bipush 50, 2) := by decide +kernel
theorem dX12_init_33 : decode cX12_init 33 = .ok (.newarray .int, 2) := by decide +kernel
theorem dX12_init_35 : decode cX12_init 35 = .ok (.putfield 20, 3) := by decide +kernel
theorem dX12_init_38 : decode cX12_init 38 = .ok (.aload_n 0, 1) := by decide +kernel
theorem dX12_init_39 : decode cX12_init 39 = .ok (.bipush 100, 2) := by decide +kernel
theorem dX12_init_41 : decode cX12_init 41 = .ok (.newarray .int, 2) := by decide +kernel
theorem dX12_init_43 : decode cX12_init 43 = .ok (.putfield 23, 3) := by decide +kernel
theorem dX12_init_46 : decode cX12_init 46 = .ok (.aload_n 0, 1) := by decide +kernel
theorem dX12_init_47 : decode cX12_init 47 = .ok (.bipush 10, 2) := by decide +kernel
theorem dX12_init_49 : decode cX12_init 49 = .ok (.newarray .boolean, 2) := by decide +kernel
theorem dX12_init_51 : decode cX12_init 51 = .ok (.putfield 26, 3) := by decide +kernel
theorem dX12_init_54 : decode cX12_init 54 = .ok (.aload_n 0, 1) := by decide +kernel
theorem dX12_init_55 : decode cX12_init 55 = .ok (.bipush 10, 2) := by decide +kernel
theorem dX12_init_57 : decode cX12_init 57 = .ok (.newarray .int, 2) := by decide +kernel
theorem dX12_init_59 : decode cX12_init 59 = .ok (.putfield 29, 3) := by decide +kernel
theorem dX12_init_62 : decode cX12_init 62 = .ok (.aload_n 0, 1) := by decide +kernel
theorem dX12_init_63 : decode cX12_init 63 = .ok (.bipush 10, 2) := by decide +kernel
theorem dX12_init_65 : decode cX12_init 65 = .ok (.newarray .int, 2) := by decide +kernel
theorem dX12_init_67 : decode cX12_init 67 = .ok (.putfield 32, 3) := by decide +kernel
theorem dX12_init_70 : decode cX12_init 70 = .ok (.aload_n 0, 1) := by decide +kernel
theorem dX12_init_71 : decode cX12_init 71 = .ok (.bipush 10, 2) := by decide +kernel
theorem dX12_init_73 : decode cX12_init 73 = .ok (.newarray .int, 2) := by decide +kernel
theorem dX12_init_75 : decode cX12_init 75 = .ok (.putfield 35, 3) := by decide +kernel
theorem dX12_init_78 : decode cX12_init 78 = .ok (.aload_n 0, 1) := by decide +kernel
theorem dX12_init_79 : decode cX12_init 79 = .ok (.bipush 60, 2) := by decide +kernel
theorem dX12_init_81 : decode cX12_init 81 = .ok (.newarray .int, 2) := by decide +kernel
theorem dX12_init_83 : decode cX12_init 83 = .ok (.putfield 38, 3) := by decide +kernel
theorem dX12_init_86 : decode cX12_init 86 = .ok (.aload_n 0, 1) := by decide +kernel
theorem dX12_init_87 : decode cX12_init 87 = .ok (.bipush 50, 2) := by decide +kernel
theorem dX12_init_89 : decode cX12_init 89 = .ok (.newarray .int, 2) := by decide +kernel
theorem dX12_init_91 : decode cX12_init 91 = .ok (.putfield 41, 3) := by decide +kernel
theorem dX12_init_94 : decode cX12_init 94 = .ok (.aload_n 0, 1) := by decide +kernel
theorem dX12_init_95 : decode cX12_init 95 = .ok (.bipush 12, 2) := by decide +kernel
theorem dX12_init_97 : decode cX12_init 97 = .ok (.newarray .int, 2) := by decide +kernel
theorem dX12_init_99 : decode cX12_init 99 = .ok (.putfield 44, 3) := by decide +kernel
theorem dX12_init_102 : decode cX12_init 102 = .ok (.aload_n 0, 1) := by decide +kernel
theorem dX12_init_103 : decode cX12_init 103 = .ok (.bipush 120, 2) := by decide +kernel
theorem dX12_init_105 : decode cX12_init 105 = .ok (.newarray .int, 2) := by decide +kernel
theorem dX12_init_107 : decode cX12_init 107 = .ok (.putfield 47, 3) := by decide +kernel
theorem dX12_init_110 : decode cX12_init 110 = .ok (.aload_n 0, 1) := by decide +kernel
theorem dX12_init_111 : decode cX12_init 111 = .ok (.sipush 512, 3) := by decide +kernel
theorem dX12_init_114 : decode cX12_init 114 = .ok (.newarray .int, 2) := by decide +kernel
theorem dX12_init_116 : decode cX12_init 116 = .ok (.putfield 50, 3) := by decide +kernel
theorem dX12_init_119 : decode cX12_init 119 = .ok (.aload_n 0, 1) := by decide +kernel
theorem dX12_init_120 : decode cX12_init 120 = .ok (.sipush 512, 3) := by decide +kernel
theorem dX12_init_123 : decode cX12_init 123 = .ok (.newarray .int, 2) := by decide +kernel
theorem dX12_init_125 : decode cX12_init 125 = .ok (.putfield 53, 3) := by decide +kernel
theorem dX12_init_128 : decode cX12_init 128 = .ok (.aload_n 0, 1) := by decide +kernel
theorem dX12_init_129 : decode cX12_init 129 = .ok (.sipush 512, 3) := by decide +kernel
theorem dX12_init_132 : decode cX12_init 132 = .ok (.newarray .int, 2) := by decide +kernel
theorem dX12_init_134 : decode cX12_init 134 = .ok (.putfield 56, 3) := by decide +kernel
theorem dX12_init_137 : decode cX12_init 137 = .ok (.aload_n 0, 1) := by decide +kernel
theorem dX12_init_138 : decode cX12_init 138 = .ok (.bipush 40, 2) := by decide +kernel
theorem dX12_init_140 : decode cX12_init 140 = .ok (.newarray .int, 2) := by decide +kernel
theorem dX12_init_142 : decode cX12_init 142 = .ok (.putfield 59, 3) := by decide +kernel
theorem dX12_init_145 : decode cX12_init 145 = .ok (.aload_n 0, 1) := by decide +kernel
theorem dX12_init_146 : decode cX12_init 146 = .ok (.sipush 200, 3) := by decide +kernel
theorem dX12_init_149 : decode cX12_init 149 = .ok (.newarray .int, 2) := by decide +kernel
theorem dX12_init_151 : decode cX12_init 151 = .ok (.putfield 62, 3) := by decide +kernel
theorem dX12_init_154 : decode cX12_init 154 = .ok (.return_, 1) := by decide +kernel
theorem dX12_feed_0 : decode cX12_feed 0 = .ok (.aload_n 0, 1) := by decide +kernel
theorem dX12_feed_1 : decode cX12_feed 1 = .ok (.getfield 65, 3) := by decide +kernel
theorem dX12_feed_4 : decode cX12_feed 4 = .ok (.bipush 20, 2) := by decide +kernel
theorem dX12_feed_6 : decode cX12_feed 6 = .ok (.iadd, 1) := by decide +kernel
theorem dX12_feed_7 : decode cX12_feed 7 = .ok (.sipush 200, 3) := by decide +kernel
theorem dX12_feed_10 : decode cX12_feed 10 = .ok (.if_icmp .le 5, 3) := by decide +kernel
theorem dX12_feed_13 : decode cX12_feed 13 = .ok (.iconst (-1), 1) := by decide +kernel
theorem dX12_feed_14 : decode cX12_feed 14 = .ok (.ireturn, 1) := by decide +kernel
theorem dX12_feed_15 : decode cX12_feed 15 = .ok (.iconst 0, 1) := by decide +kernel
theorem dX12_feed_16 : decode cX12_feed 16 = .ok (.istore 6, 2) := by decide +kernel
theorem dX12_feed_18 : decode cX12_feed 18 = .ok (.iload 6, 2) := by decide +kernel
theorem dX12_feed_20 : decode cX12_feed 20 = .ok (.bipush 20, 2) := by decide +kernel
theorem dX12_feed_22 : decode cX12_feed 22 = .ok (.if_icmp .ge 92, 3) := by decide +kernel
theorem dX12_feed_25 : decode cX12_feed 25 = .ok (.iload 6, 2) := by decide +kernel
theorem dX12_feed_27 : decode cX12_feed 27 = .ok (.iconst 4, 1) := by decide +kernel
theorem dX12_feed_28 : decode cX12_feed 28 = .ok (.if_icmp .ge 7, 3) := by decide +kernel
theorem dX12_feed_31 : decode cX12_feed 31 = .ok (.iload_n 1, 1) := by decide +kernel
theorem dX12_feed_32 : decode cX12_feed 32 = .ok (.goto 39, 3) := by decide +kernel
theorem dX12_feed_35 : decode cX12_feed 35 = .ok (.iload 6, 2) := by decide +kernel
theorem dX12_feed_37 : decode cX12_feed 37 = .ok (.bipush 8, 2) := by decide +kernel
theorem dX12_feed_39 : decode cX12_feed 39 = .ok (.if_icmp .ge 7, 3) := by decide +kernel
theorem dX12_feed_42 : decode cX12_feed 42 = .ok (.iload_n 2, 1) := by decide +kernel
theorem dX12_feed_43 : decode cX12_feed 43 = .ok (.goto 28, 3) := by decide +kernel
theorem dX12_feed_46 : decode cX12_feed 46 = .ok (.iload 6, 2) := by decide +kernel
theorem dX12_feed_48 : decode cX12_feed 48 = .ok (.bipush 12, 2) := by decide +kernel
theorem dX12_feed_50 : decode cX12_feed 50 = .ok (.if_icmp .ge 7, 3) := by decide +kernel
theorem dX12_feed_53 : decode cX12_feed 53 = .ok (.iload_n 3, 1) := by decide +kernel
theorem dX12_feed_54 : decode cX12_feed 54 = .ok (.goto 17, 3) := by decide +kernel
theorem dX12_feed_57 : decode cX12_feed 57 = .ok (.iload 6, 2) := by decide +kernel
theorem dX12_feed_59 : decode cX12_feed 59 = .ok (.bipush 16, 2) := by decide +kernel
theorem dX12_feed_61 : decode cX12_feed 61 = .ok (.if_icmp .ge 8, 3) := by decide +kernel
theorem dX12_feed_64 : decode cX12_feed 64 = .ok (.iload 4, 2) := by decide +kernel
theorem dX12_feed_66 : decode cX12_feed 66 = .ok (.goto 5, 3) := by decide +kernel
theorem dX12_feed_69 : decode cX12_feed 69 = .ok (.iload 5, 2) := by decide +kernel
theorem dX12_feed_71 : decode cX12_feed 71 = .ok (.istore 7, 2) := by decide +kernel
theorem dX12_feed_73 : decode cX12_feed 73 = .ok (.aload_n 0, 1) := by decide +kernel
theorem dX12_feed_74 : decode cX12_feed 74 = .ok (.getfield 7, 3) := by decide +kernel
theorem dX12_feed_77 : decode cX12_feed 77 = .ok (.aload_n 0, 1) := by decide +kernel
theorem dX12_feed_78 : decode cX12_feed 78 = .ok (.getfield 65, 3) := by decide +kernel
theorem dX12_feed_81 : decode cX12_feed 81 = .ok (.iload 7, 2) := by decide +kernel
theorem dX12_feed_83 : decode cX12_feed 83 = .ok (.bipush 8, 2) := by decide +kernel
theorem dX12_feed_85 : decode cX12_feed 85 = .ok (.iconst 3, 1) := by decide +kernel
theorem dX12_feed_86 : decode cX12_feed 86 = .ok (.iload 6, 2) := by decide +kernel
theorem dX12_feed_88 : decode cX12_feed 88 = .ok (.iconst 4, 1) := by decide +kernel
theorem dX12_feed_89 : decode cX12_feed 89 = .ok (.irem, 1) := by decide +kernel
theorem dX12_feed_90 : decode cX12_feed 90 = .ok (.isub, 1) := by decide +kernel
theorem dX12_feed_91 : decode cX12_feed 91 = .ok (.imul, 1) := by decide +kernel
theorem dX12_feed_92 : decode cX12_feed 92 = .ok (.ishr, 1) := by decide +kernel
theorem dX12_feed_93 : decode cX12_feed 93 = .ok (.sipush 255, 3) := by decide +kernel
theorem dX12_feed_96 : decode cX12_feed 96 = .ok (.iand, 1) := by decide +kernel
theorem dX12_feed_97 : decode cX12_feed 97 = .ok (.iastore, 1) := by decide +kernel
theorem dX12_feed_98 : decode cX12_feed 98 = .ok (.aload_n 0, 1) := by decide +kernel
theorem dX12_feed_99 : decode cX12_feed 99 = .ok (.dup, 1) := by decide +kernel
theorem dX12_feed_100 : decode cX12_feed 100 = .ok (.getfield 65, 3) := by decide +kernel
theorem dX12_feed_103 : decode cX12_feed 103 = .ok (.iconst 1, 1) := by decide +kernel
theorem dX12_feed_104 : decode cX12_feed 104 = .ok (.iadd, 1) := by decide +kernel
theorem dX12_feed_105 : decode cX12_feed 105 = .ok (.putfield 65, 3) := by decide +kernel
theorem dX12_feed_108 : decode cX12_feed 108 = .ok (.iinc 6 1, 3) := by decide +kernel
theorem dX12_feed_111 : decode cX12_feed 111 = .ok (.goto (-93), 3) := by decide +kernel
theorem dX12_feed_114 : decode cX12_feed 114 = .ok (.aload_n 0, 1) := by decide +kernel
theorem dX12_feed_115 : decode cX12_feed 115 = .ok (.getfield 65, 3) := by decide +kernel
theorem dX12_feed_118 : decode cX12_feed 118 = .ok (.ireturn, 1) := by decide +kernel
theorem dX12_end_0 : decode cX12_end 0 = .ok (.iload_n 1, 1) := by decide +kernel
theorem dX12_end_1 : decode cX12_end 1 = .ok (.ifCond .lt 11, 3) := by decide +kernel
theorem dX12_end_4 : decode cX12_end 4 = .ok (.iload_n 1, 1) := by decide +kernel
theorem dX12_end_5 : decode cX12_end 5 = .ok (.aload_n 0, 1) := by decide +kernel
theorem dX12_end_6 : decode cX12_end 6 = .ok (.getfield 65, 3) := by decide +kernel
theorem dX12_end_9 : decode cX12_end 9 = .ok (.if_icmp .le 5, 3) := by decide +kernel
theorem dX12_end_12 : decode cX12_end 12 = .ok (.iconst 0, 1) := by decide +kernel
theorem dX12_end_13 : decode cX12_end 13 = .ok (.ireturn, 1) := by decide +kernel
theorem dX12_end_14 : decode cX12_end 14 = .ok (.aload_n 0, 1) := by decide +kernel
theorem dX12_end_15 : decode cX12_end 15 = .ok (.iload_n 1, 1) := by decide +kernel
theorem dX12_end_16 : decode cX12_end 16 = .ok (.putfield 65, 3) := by decide +kernel
theorem dX12_end_19 : decode cX12_end 19 = .ok (.iconst 1, 1) := by decide +kernel
theorem dX12_end_20 : decode cX12_end 20 = .ok (.ireturn, 1) := by decide +kernel
theorem dX12_isIn_0 : decode cX12_isIn 0 = .ok (.iload_n 0, 1) := by decide +kernel
theorem dX12_isIn_1 : decode cX12_isIn 1 = .ok (.iload_n 1, 1) := by decide +kernel
theorem dX12_isIn_2 : decode cX12_isIn 2 = .ok (.if_icmp .lt 12, 3) := by decide +kernel
theorem dX12_isIn_5 : decode cX12_isIn 5 = .ok (.iload_n 0, 1) := by decide +kernel
theorem dX12_isIn_6 : decode cX12_isIn 6 = .ok (.iload_n 2, 1) := by decide +kernel
theorem dX12_isIn_7 : decode cX12_isIn 7 = .ok (.if_icmp .gt 7, 3) := by decide +kernel
theorem dX12_isIn_10 : decode cX12_isIn 10 = .ok (.iconst 1, 1) := by decide +kernel
theorem dX12_isIn_11 : decode cX12_isIn 11 = .ok (.goto 4, 3) := by decide +kernel
theorem dX12_isIn_14 : decode cX12_isIn 14 = .ok (.iconst 0, 1) := by decide +kernel
theorem dX12_isIn_15 : decode cX12_isIn 15 = .ok (.ireturn, 1) := by decide +kernel
theorem dX12_isLetter_0 : decode cX12_isLetter 0 = .ok (.iload_n 0, 1) := by decide +kernel
theorem dX12_isLetter_1 : decode cX12_isLetter 1 = .ok (.bipush 97, 2) := by decide +kernel
theorem dX12_isLetter_3 : decode cX12_isLetter 3 = .ok (.if_icmp .lt 13, 3) := by decide +kernel
theorem dX12_isLetter_6 : decode cX12_isLetter 6 = .ok (.iload_n 0, 1) := by decide +kernel
theorem dX12_isLetter_7 : decode cX12_isLetter 7 = .ok (.bipush 122, 2) := by decide +kernel
theorem dX12_isLetter_9 : decode cX12_isLetter 9 = .ok (.if_icmp .gt 7, 3) := by decide +kernel
theorem dX12_isLetter_12 : decode cX12_isLetter 12 = .ok (.iconst 1, 1) := by decide +kernel
theorem dX12_isLetter_13 : decode cX12_isLetter 13 = .ok (.goto 4, 3) := by decide +kernel
theorem dX12_isLetter_16 : decode cX12_isLetter 16 = .ok (.iconst 0, 1) := by decide +kernel
theorem dX12_isLetter_17 : decode cX12_isLetter 17 = .ok (.ireturn, 1) := by decide +kernel
theorem dX12_isBit_0 : decode cX12_isBit 0 = .ok (.iload_n 1, 1) := by decide +kernel
theorem dX12_isBit_1 : decode cX12_isBit 1 = .ok (.iconst 0, 1) := by decide +kernel
theorem dX12_isBit_2 : decode cX12_isBit 2 = .ok (.bipush 9, 2) := by decide +kernel
theorem dX12_isBit_4 : decode cX12_isBit 4 = .ok (.invokestatic 69, 3) := by decide +kernel
theorem dX12_isBit_7 : decode cX12_isBit 7 = .ok (.ifCond .eq 16, 3) := by decide +kernel
theorem dX12_isBit_10 : decode cX12_isBit 10 = .ok (.aload_n 0, 1) := by decide +kernel
theorem dX12_isBit_11 : decode cX12_isBit 11 = .ok (.getfield 13, 3) := by decide +kernel
theorem dX12_isBit_14 : decode cX12_isBit 14 = .ok (.iload_n 1, 1) := by decide +kernel
theorem dX12_isBit_15 : decode cX12_isBit 15 = .ok (.baload, 1) := by decide +kernel
theorem dX12_isBit_16 : decode cX12_isBit 16 = .ok (.ifCond .eq 7, 3) := by decide +kernel
theorem dX12_isBit_19 : decode cX12_isBit 19 = .ok (.iconst 1, 1) := by decide +kernel
theorem dX12_isBit_20 : decode cX12_isBit 20 = .ok (.goto 4, 3) := by decide +kernel
theorem dX12_isBit_23 : decode cX12_isBit 23 = .ok (.iconst 0, 1) := by decide +kernel
theorem dX12_isBit_24 : decode cX12_isBit 24 = .ok (.ireturn, 1) := by decide +kernel
theorem dX12_reads_0 : decode cX12_reads 0 = .ok (.iconst 0, 1) := by decide +kernel
theorem dX12_reads_1 : decode cX12_reads 1 = .ok (.istore_n 2, 1) := by decide +kernel
theorem dX12_reads_2 : decode cX12_reads 2 = .ok (.iload_n 2, 1) := by decide +kernel
theorem dX12_reads_3 : decode cX12_reads 3 = .ok (.bipush 50, 2) := by decide +kernel
theorem dX12_reads_5 : decode cX12_reads 5 = .ok (.if_icmp .ge 17, 3) := by decide +kernel
theorem dX12_reads_8 : decode cX12_reads 8 = .ok (.aload_n 0, 1) := by decide +kernel
theorem dX12_reads_9 : decode cX12_reads 9 = .ok (.getfield 41, 3) := by decide +kernel
theorem dX12_reads_12 : decode cX12_reads 12 = .ok (.iload_n 2, 1) := by decide +kernel
theorem dX12_reads_13 : decode cX12_reads 13 = .ok (.bipush 95, 2) := by decide +kernel
theorem dX12_reads_15 : decode cX12_reads 15 = .ok (.iastore, 1) := by decide +kernel
theorem dX12_reads_16 : decode cX12_reads 16 = .ok (.iinc 2 1, 3) := by decide +kernel
theorem dX12_reads_19 : decode cX12_reads 19 = .ok (.goto (-17), 3) := by decide +kernel
theorem dX12_reads_22 : decode cX12_reads 22 = .ok (.iconst 0, 1) := by decide +kernel
theorem dX12_reads_23 : decode cX12_reads 23 = .ok (.istore_n 2, 1) := by decide +kernel
theorem dX12_reads_24 : decode cX12_reads 24 = .ok (.iconst 0, 1) := by decide +kernel
theorem dX12_reads_25 : decode cX12_reads 25 = .ok (.istore_n 3, 1) := by decide +kernel
theorem dX12_reads_26 : decode cX12_reads 26 = .ok (.iconst 0, 1) := by decide +kernel
theorem dX12_reads_27 : decode cX12_reads 27 = .ok (.istore 4, 2) := by decide +kernel
theorem dX12_reads_29 : decode cX12_reads 29 = .ok (.iconst 0, 1) := by decide +kernel
theorem dX12_reads_30 : decode cX12_reads 30 = .ok (.istore 5, 2) := by decide +kernel
theorem dX12_reads_32 : decode cX12_reads 32 = .ok (.iload 5, 2) := by decide +kernel
theorem dX12_reads_34 : decode cX12_reads 34 = .ok (.iload_n 1, 1) := by decide +kernel
theorem dX12_reads_35 : decode cX12_reads 35 = .ok (.if_icmp .ge 100, 3) := by decide +kernel
theorem dX12_reads_38 : decode cX12_reads 38 = .ok (.aload_n 0, 1) := by decide +kernel
theorem dX12_reads_39 : decode cX12_reads 39 = .ok (.getfield 7, 3) := by decide +kernel
theorem dX12_reads_42 : decode cX12_reads 42 = .ok (.iload 5, 2) := by decide +kernel
theorem dX12_reads_44 : decode cX12_reads 44 = .ok (.iaload, 1) := by decide +kernel
theorem dX12_reads_45 : decode cX12_reads 45 = .ok (.istore 6, 2) := by decide +kernel
theorem dX12_reads_47 : decode cX12_reads 47 = .ok (.iload 6, 2) := by decide +kernel
theorem dX12_reads_49 : decode cX12_reads 49 = .ok (.bipush 59, 2) := by decide +kernel
theorem dX12_reads_51 : decode cX12_reads 51 = .ok (.if_icmp .ne 15, 3) := by decide +kernel
theorem dX12_reads_54 : decode cX12_reads 54 = .ok (.iinc 2 1, 3) := by decide +kernel
theorem dX12_reads_57 : decode cX12_reads 57 = .ok (.iconst 0, 1) := by decide +kernel
theorem dX12_reads_58 : decode cX12_reads 58 = .ok (.istore_n 3, 1) := by decide +kernel
theorem dX12_reads_59 : decode cX12_reads 59 = .ok (.iload_n 2, 1) := by decide +kernel
theorem dX12_reads_60 : decode cX12_reads 60 = .ok (.iconst 5, 1) := by decide +kernel
theorem dX12_reads_61 : decode cX12_reads 61 = .ok (.if_icmp .ne 68, 3) := by decide +kernel
theorem dX12_reads_64 : decode cX12_reads 64 = .ok (.iconst (-1), 1) := by decide +kernel
theorem dX12_reads_65 : decode cX12_reads 65 = .ok (.ireturn, 1) := by decide +kernel
theorem dX12_reads_66 : decode cX12_reads 66 = .ok (.iload 6, 2) := by decide +kernel
theorem dX12_reads_68 : decode cX12_reads 68 = .ok (.invokestatic 73, 3) := by decide +kernel
theorem dX12_reads_71 : decode cX12_reads 71 = .ok (.ifCond .ne 24, 3) := by decide +kernel
theorem dX12_reads_74 : decode cX12_reads 74 = .ok (.iload 6, 2) := by decide +kernel
theorem dX12_reads_76 : decode cX12_reads 76 = .ok (.bipush 46, 2) := by decide +kernel
theorem dX12_reads_78 : decode cX12_reads 78 = .ok (.if_icmp .eq 17, 3) := by decide +kernel
theorem dX12_reads_81 : decode cX12_reads 81 = .ok (.iload 6, 2) := by decide +kernel
theorem dX12_reads_83 : decode cX12_reads 83 = .ok (.bipush 44, 2) := by decide +kernel
theorem dX12_reads_85 : decode cX12_reads 85 = .ok (.if_icmp .eq 10, 3) := by decide +kernel
theorem dX12_reads_88 : decode cX12_reads 88 = .ok (.iload 6, 2) := by decide +kernel
theorem dX12_reads_90 : decode cX12_reads 90 = .ok (.bipush 95, 2) := by decide +kernel
theorem dX12_reads_92 : decode cX12_reads 92 = .ok (.if_icmp .ne 9, 3) := by decide +kernel
theorem dX12_reads_95 : decode cX12_reads 95 = .ok (.iload_n 3, 1) := by decide +kernel
theorem dX12_reads_96 : decode cX12_reads 96 = .ok (.bipush 10, 2) := by decide +kernel
theorem dX12_reads_98 : decode cX12_reads 98 = .ok (.if_icmp .ne 5, 3) := by decide +kernel
theorem dX12_reads_101 : decode cX12_reads 101 = .ok (.iconst (-1), 1) := by decide +kernel
theorem dX12_reads_102 : decode cX12_reads 102 = .ok (.ireturn, 1) := by decide +kernel
theorem dX12_reads_103 : decode cX12_reads 103 = .ok (.aload_n 0, 1) := by decide +kernel
theorem dX12_reads_104 : decode cX12_reads 104 = .ok (.getfield 41, 3) := by decide +kernel
theorem dX12_reads_107 : decode cX12_reads 107 = .ok (.bipush 10, 2) := by decide +kernel
theorem dX12_reads_109 : decode cX12_reads 109 = .ok (.iload_n 2, 1) := by decide +kernel
theorem dX12_reads_110 : decode cX12_reads 110 = .ok (.imul, 1) := by decide +kernel
theorem dX12_reads_111 : decode cX12_reads 111 = .ok (.iload_n 3, 1) := by decide +kernel
theorem dX12_reads_112 : decode cX12_reads 112 = .ok (.iadd, 1) := by decide +kernel
theorem dX12_reads_113 : decode cX12_reads 113 = .ok (.iload 6, 2) := by decide +kernel
theorem dX12_reads_115 : decode cX12_reads 115 = .ok (.iastore, 1) := by decide +kernel
theorem dX12_reads_116 : decode cX12_reads 116 = .ok (.iinc 3 1, 3) := by decide +kernel
theorem dX12_reads_119 : decode cX12_reads 119 = .ok (.iload 6, 2) := by decide +kernel
theorem dX12_reads_121 : decode cX12_reads 121 = .ok (.bipush 95, 2) := by decide +kernel
theorem dX12_reads_123 : decode cX12_reads 123 = .ok (.if_icmp .eq 6, 3) := by decide +kernel
theorem dX12_reads_126 : decode cX12_reads 126 = .ok (.iinc 4 1, 3) := by decide +kernel
theorem dX12_reads_129 : decode cX12_reads 129 = .ok (.iinc 5 1, 3) := by decide +kernel
theorem dX12_reads_132 : decode cX12_reads 132 = .ok (.goto (-100), 3) := by decide +kernel
theorem dX12_reads_135 : decode cX12_reads 135 = .ok (.iload 4, 2) := by decide +kernel
theorem dX12_reads_137 : decode cX12_reads 137 = .ok (.ifCond .ne 7, 3) := by decide +kernel
theorem dX12_reads_140 : decode cX12_reads 140 = .ok (.iconst (-1), 1) := by decide +kernel
theorem dX12_reads_141 : decode cX12_reads 141 = .ok (.goto 5, 3) := by decide +kernel
theorem dX12_reads_144 : decode cX12_reads 144 = .ok (.iload 4, 2) := by decide +kernel
theorem dX12_reads_146 : decode cX12_reads 146 = .ok (.ireturn, 1) := by decide +kernel
theorem dX12_bit_0 : decode cX12_bit 0 = .ok (.aload_n 0, 1) := by decide +kernel
theorem dX12_bit_1 : decode cX12_bit 1 = .ok (.getfield 65, 3) := by decide +kernel
theorem dX12_bit_4 : decode cX12_bit 4 = .ok (.istore_n 2, 1) := by decide +kernel
theorem dX12_bit_5 : decode cX12_bit 5 = .ok (.aload_n 0, 1) := by decide +kernel
theorem dX12_bit_6 : decode cX12_bit 6 = .ok (.iconst 0, 1) := by decide +kernel
theorem dX12_bit_7 : decode cX12_bit 7 = .ok (.putfield 65, 3) := by decide +kernel
theorem dX12_bit_10 : decode cX12_bit 10 = .ok (.iload_n 1, 1) := by decide +kernel
theorem dX12_bit_11 : decode cX12_bit 11 = .ok (.iconst 0, 1) := by decide +kernel
theorem dX12_bit_12 : decode cX12_bit 12 = .ok (.bipush 9, 2) := by decide +kernel
theorem dX12_bit_14 : decode cX12_bit 14 = .ok (.invokestatic 69, 3) := by decide +kernel
theorem dX12_bit_17 : decode cX12_bit 17 = .ok (.ifCond .ne 5, 3) := by decide +kernel
theorem dX12_bit_20 : decode cX12_bit 20 = .ok (.iconst (-1), 1) := by decide +kernel
theorem dX12_bit_21 : decode cX12_bit 21 = .ok (.ireturn, 1) := by decide +kernel
theorem dX12_bit_22 : decode cX12_bit 22 = .ok (.aload_n 0, 1) := by decide +kernel
theorem dX12_bit_23 : decode cX12_bit 23 = .ok (.iload_n 2, 1) := by decide +kernel
theorem dX12_bit_24 : decode cX12_bit 24 = .ok (.invokevirtual 77, 3) := by decide +kernel
theorem dX12_bit_27 : decode cX12_bit 27 = .ok (.istore_n 3, 1) := by decide +kernel
theorem dX12_bit_28 : decode cX12_bit 28 = .ok (.iload_n 3, 1) := by decide +kernel
theorem dX12_bit_29 : decode cX12_bit 29 = .ok (.iconst (-1), 1) := by decide +kernel
theorem dX12_bit_30 : decode cX12_bit 30 = .ok (.if_icmp .ne 5, 3) := by decide +kernel
theorem dX12_bit_33 : decode cX12_bit 33 = .ok (.iconst (-1), 1) := by decide +kernel
theorem dX12_bit_34 : decode cX12_bit 34 = .ok (.ireturn, 1) := by decide +kernel
theorem dX12_bit_35 : decode cX12_bit 35 = .ok (.aload_n 0, 1) := by decide +kernel
theorem dX12_bit_36 : decode cX12_bit 36 = .ok (.getfield 13, 3) := by decide +kernel
theorem dX12_bit_39 : decode cX12_bit 39 = .ok (.iload_n 1, 1) := by decide +kernel
theorem dX12_bit_40 : decode cX12_bit 40 = .ok (.iconst 1, 1) := by decide +kernel
theorem dX12_bit_41 : decode cX12_bit 41 = .ok (.bastore, 1) := by decide +kernel
theorem dX12_bit_42 : decode cX12_bit 42 = .ok (.aload_n 0, 1) := by decide +kernel
theorem dX12_bit_43 : decode cX12_bit 43 = .ok (.getfield 26, 3) := by decide +kernel
theorem dX12_bit_46 : decode cX12_bit 46 = .ok (.iload_n 1, 1) := by decide +kernel
theorem dX12_bit_47 : decode cX12_bit 47 = .ok (.iconst 0, 1) := by decide +kernel
theorem dX12_bit_48 : decode cX12_bit 48 = .ok (.bastore, 1) := by decide +kernel
theorem dX12_bit_49 : decode cX12_bit 49 = .ok (.aload_n 0, 1) := by decide +kernel
theorem dX12_bit_50 : decode cX12_bit 50 = .ok (.getfield 35, 3) := by decide +kernel
theorem dX12_bit_53 : decode cX12_bit 53 = .ok (.iload_n 1, 1) := by decide +kernel
theorem dX12_bit_54 : decode cX12_bit 54 = .ok (.iconst 0, 1) := by decide +kernel
theorem dX12_bit_55 : decode cX12_bit 55 = .ok (.iastore, 1) := by decide +kernel
theorem dX12_bit_56 : decode cX12_bit 56 = .ok (.iconst 0, 1) := by decide +kernel
theorem dX12_bit_57 : decode cX12_bit 57 = .ok (.istore 4, 2) := by decide +kernel
theorem dX12_bit_59 : decode cX12_bit 59 = .ok (.iload 4, 2) := by decide +kernel
theorem dX12_bit_61 : decode cX12_bit 61 = .ok (.bipush 50, 2) := by decide +kernel
theorem dX12_bit_63 : decode cX12_bit 63 = .ok (.if_icmp .ge 28, 3) := by decide +kernel
theorem dX12_bit_66 : decode cX12_bit 66 = .ok (.aload_n 0, 1) := by decide +kernel
theorem dX12_bit_67 : decode cX12_bit 67 = .ok (.getfield 17, 3) := by decide +kernel
theorem dX12_bit_70 : decode cX12_bit 70 = .ok (.bipush 50, 2) := by decide +kernel
theorem dX12_bit_72 : decode cX12_bit 72 = .ok (.iload_n 1, 1) := by decide +kernel
theorem dX12_bit_73 : decode cX12_bit 73 = .ok (.imul, 1) := by decide +kernel
theorem dX12_bit_74 : decode cX12_bit 74 = .ok (.iload 4, 2) := by decide +kernel
theorem dX12_bit_76 : decode cX12_bit 76 = .ok (.iadd, 1) := by decide +kernel
theorem dX12_bit_77 : decode cX12_bit 77 = .ok (.aload_n 0, 1) := by decide +kernel
theorem dX12_bit_78 : decode cX12_bit 78 = .ok (.getfield 41, 3) := by decide +kernel
theorem dX12_bit_81 : decode cX12_bit 81 = .ok (.iload 4, 2) := by decide +kernel
theorem dX12_bit_83 : decode cX12_bit 83 = .ok (.iaload, 1) := by decide +kernel
theorem dX12_bit_84 : decode cX12_bit 84 = .ok (.iastore, 1) := by decide +kernel
theorem dX12_bit_85 : decode cX12_bit 85 = .ok (.iinc 4 1, 3) := by decide +kernel
theorem dX12_bit_88 : decode cX12_bit 88 = .ok (.goto (-29), 3) := by decide +kernel
theorem dX12_bit_91 : decode cX12_bit 91 = .ok (.iconst 0, 1) := by decide +kernel
theorem dX12_bit_92 : decode cX12_bit 92 = .ok (.istore 4, 2) := by decide +kernel
theorem dX12_bit_94 : decode cX12_bit 94 = .ok (.iload 4, 2) := by decide +kernel
theorem dX12_bit_96 : decode cX12_bit 96 = .ok (.iconst 5, 1) := by decide +kernel
theorem dX12_bit_97 : decode cX12_bit 97 = .ok (.if_icmp .ge 21, 3) := by decide +kernel
theorem dX12_bit_100 : decode cX12_bit 100 = .ok (.aload_n 0, 1) := by decide +kernel
theorem dX12_bit_101 : decode cX12_bit 101 = .ok (.getfield 20, 3) := by decide +kernel
theorem dX12_bit_104 : decode cX12_bit 104 = .ok (.iconst 5, 1) := by decide +kernel
theorem dX12_bit_105 : decode cX12_bit 105 = .ok (.iload_n 1, 1) := by decide +kernel
theorem dX12_bit_106 : decode cX12_bit 106 = .ok (.imul, 1) := by decide +kernel
theorem dX12_bit_107 : decode cX12_bit 107 = .ok (.iload 4, 2) := by decide +kernel
theorem dX12_bit_109 : decode cX12_bit 109 = .ok (.iadd, 1) := by decide +kernel
theorem dX12_bit_110 : decode cX12_bit 110 = .ok (.iconst 0, 1) := by decide +kernel
theorem dX12_bit_111 : decode cX12_bit 111 = .ok (.iastore, 1) := by decide +kernel
theorem dX12_bit_112 : decode cX12_bit 112 = .ok (.iinc 4 1, 3) := by decide +kernel
theorem dX12_bit_115 : decode cX12_bit 115 = .ok (.goto (-21), 3) := by decide +kernel
theorem dX12_bit_118 : decode cX12_bit 118 = .ok (.iconst 0, 1) := by decide +kernel
theorem dX12_bit_119 : decode cX12_bit 119 = .ok (.istore 4, 2) := by decide +kernel
theorem dX12_bit_121 : decode cX12_bit 121 = .ok (.iload 4, 2) := by decide +kernel
theorem dX12_bit_123 : decode cX12_bit 123 = .ok (.bipush 10, 2) := by decide +kernel
theorem dX12_bit_125 : decode cX12_bit 125 = .ok (.if_icmp .ge 22, 3) := by decide +kernel
theorem dX12_bit_128 : decode cX12_bit 128 = .ok (.aload_n 0, 1) := by decide +kernel
theorem dX12_bit_129 : decode cX12_bit 129 = .ok (.getfield 23, 3) := by decide +kernel
theorem dX12_bit_132 : decode cX12_bit 132 = .ok (.bipush 10, 2) := by decide +kernel
theorem dX12_bit_134 : decode cX12_bit 134 = .ok (.iload_n 1, 1) := by decide +kernel
theorem dX12_bit_135 : decode cX12_bit 135 = .ok (.imul, 1) := by decide +kernel
theorem dX12_bit_136 : decode cX12_bit 136 = .ok (.iload 4, 2) := by decide +kernel
theorem dX12_bit_138 : decode cX12_bit 138 = .ok (.iadd, 1) := by decide +kernel
theorem dX12_bit_139 : decode cX12_bit 139 = .ok (.iconst 0, 1) := by decide +kernel
theorem dX12_bit_140 : decode cX12_bit 140 = .ok (.iastore, 1) := by decide +kernel
theorem dX12_bit_141 : decode cX12_bit 141 = .ok (.iinc 4 1, 3) := by decide +kernel
theorem dX12_bit_144 : decode cX12_bit 144 = .ok (.goto (-23), 3) := by decide +kernel
theorem dX12_bit_147 : decode cX12_bit 147 = .ok (.iload_n 3, 1) := by decide +kernel
theorem dX12_bit_148 : decode cX12_bit 148 = .ok (.ireturn, 1) := by decide +kernel
theorem dX12_cell_0 : decode cX12_cell 0 = .ok (.aload_n 0, 1) := by decide +kernel
theorem dX12_cell_1 : decode cX12_cell 1 = .ok (.iload_n 1, 1) := by decide +kernel
theorem dX12_cell_2 : decode cX12_cell 2 = .ok (.invokevirtual 81, 3) := by decide +kernel
theorem dX12_cell_5 : decode cX12_cell 5 = .ok (.ifCond .eq 41, 3) := by decide +kernel
theorem dX12_cell_8 : decode cX12_cell 8 = .ok (.iload_n 2, 1) := by decide +kernel
theorem dX12_cell_9 : decode cX12_cell 9 = .ok (.iconst 0, 1) := by decide +kernel
theorem dX12_cell_10 : decode cX12_cell 10 = .ok (.iconst 4, 1) := by decide +kernel
theorem dX12_cell_11 : decode cX12_cell 11 = .ok (.invokestatic 69, 3) := by decide +kernel
theorem dX12_cell_14 : decode cX12_cell 14 = .ok (.ifCond .eq 32, 3) := by decide +kernel
theorem dX12_cell_17 : decode cX12_cell 17 = .ok (.iload_n 3, 1) := by decide +kernel
theorem dX12_cell_18 : decode cX12_cell 18 = .ok (.iconst 0, 1) := by decide +kernel
theorem dX12_cell_19 : decode cX12_cell 19 = .ok (.bipush 9, 2) := by decide +kernel
theorem dX12_cell_21 : decode cX12_cell 21 = .ok (.invokestatic 69, 3) := by decide +kernel
theorem dX12_cell_24 : decode cX12_cell 24 = .ok (.ifCond .eq 22, 3) := by decide +kernel
theorem dX12_cell_27 : decode cX12_cell 27 = .ok (.aload_n 0, 1) := by decide +kernel
theorem dX12_cell_28 : decode cX12_cell 28 = .ok (.getfield 17, 3) := by decide +kernel
theorem dX12_cell_31 : decode cX12_cell 31 = .ok (.bipush 50, 2) := by decide +kernel
theorem dX12_cell_33 : decode cX12_cell 33 = .ok (.iload_n 1, 1) := by decide +kernel
theorem dX12_cell_34 : decode cX12_cell 34 = .ok (.imul, 1) := by decide +kernel
theorem dX12_cell_35 : decode cX12_cell 35 = .ok (.bipush 10, 2) := by decide +kernel
theorem dX12_cell_37 : decode cX12_cell 37 = .ok (.iload_n 2, 1) := by decide +kernel
theorem dX12_cell_38 : decode cX12_cell 38 = .ok (.imul, 1) := by decide +kernel
theorem dX12_cell_39 : decode cX12_cell 39 = .ok (.iadd, 1) := by decide +kernel
theorem dX12_cell_40 : decode cX12_cell 40 = .ok (.iload_n 3, 1) := by decide +kernel
theorem dX12_cell_41 : decode cX12_cell 41 = .ok (.iadd, 1) := by decide +kernel
theorem dX12_cell_42 : decode cX12_cell 42 = .ok (.iaload, 1) := by decide +kernel
theorem dX12_cell_43 : decode cX12_cell 43 = .ok (.goto 4, 3) := by decide +kernel
theorem dX12_cell_46 : decode cX12_cell 46 = .ok (.iconst (-1), 1) := by decide +kernel
theorem dX12_cell_47 : decode cX12_cell 47 = .ok (.ireturn, 1) := by decide +kernel
theorem dX12_fibre_0 : decode cX12_fibre 0 = .ok (.aload_n 0, 1) := by decide +kernel
theorem dX12_fibre_1 : decode cX12_fibre 1 = .ok (.iload_n 1, 1) := by decide +kernel
theorem dX12_fibre_2 : decode cX12_fibre 2 = .ok (.invokevirtual 81, 3) := by decide +kernel
theorem dX12_fibre_5 : decode cX12_fibre 5 = .ok (.ifCond .eq 41, 3) := by decide +kernel
theorem dX12_fibre_8 : decode cX12_fibre 8 = .ok (.aload_n 0, 1) := by decide +kernel
theorem dX12_fibre_9 : decode cX12_fibre 9 = .ok (.getfield 26, 3) := by decide +kernel
theorem dX12_fibre_12 : decode cX12_fibre 12 = .ok (.iload_n 1, 1) := by decide +kernel
theorem dX12_fibre_13 : decode cX12_fibre 13 = .ok (.baload, 1) := by decide +kernel
theorem dX12_fibre_14 : decode cX12_fibre 14 = .ok (.ifCond .ne 32, 3) := by decide +kernel
theorem dX12_fibre_17 : decode cX12_fibre 17 = .ok (.iload 4, 2) := by decide +kernel
theorem dX12_fibre_19 : decode cX12_fibre 19 = .ok (.iconst 0, 1) := by decide +kernel
theorem dX12_fibre_20 : decode cX12_fibre 20 = .ok (.bipush 99, 2) := by decide +kernel
theorem dX12_fibre_22 : decode cX12_fibre 22 = .ok (.invokestatic 69, 3) := by decide +kernel
theorem dX12_fibre_25 : decode cX12_fibre 25 = .ok (.ifCond .eq 21, 3) := by decide +kernel
theorem dX12_fibre_28 : decode cX12_fibre 28 = .ok (.iload_n 3, 1) := by decide +kernel
theorem dX12_fibre_29 : decode cX12_fibre 29 = .ok (.iconst 0, 1) := by decide +kernel
theorem dX12_fibre_30 : decode cX12_fibre 30 = .ok (.iload_n 2, 1) := by decide +kernel
theorem dX12_fibre_31 : decode cX12_fibre 31 = .ok (.ifCond .eq 7, 3) := by decide +kernel
theorem dX12_fibre_34 : decode cX12_fibre 34 = .ok (.iconst 4, 1) := by decide +kernel
theorem dX12_fibre_35 : decode cX12_fibre 35 = .ok (.goto 5, 3) := by decide +kernel
theorem dX12_fibre_38 : decode cX12_fibre 38 = .ok (.bipush 9, 2) := by decide +kernel
theorem dX12_fibre_40 : decode cX12_fibre 40 = .ok (.invokestatic 69, 3) := by decide +kernel
theorem dX12_fibre_43 : decode cX12_fibre 43 = .ok (.ifCond .ne 5, 3) := by decide +kernel
theorem dX12_fibre_46 : decode cX12_fibre 46 = .ok (.iconst (-1), 1) := by decide +kernel
theorem dX12_fibre_47 : decode cX12_fibre 47 = .ok (.ireturn, 1) := by decide +kernel
theorem dX12_fibre_48 : decode cX12_fibre 48 = .ok (.iload_n 2, 1) := by decide +kernel
theorem dX12_fibre_49 : decode cX12_fibre 49 = .ok (.ifCond .eq 16, 3) := by decide +kernel
theorem dX12_fibre_52 : decode cX12_fibre 52 = .ok (.aload_n 0, 1) := by decide +kernel
theorem dX12_fibre_53 : decode cX12_fibre 53 = .ok (.getfield 20, 3) := by decide +kernel
theorem dX12_fibre_56 : decode cX12_fibre 56 = .ok (.iconst 5, 1) := by decide +kernel
theorem dX12_fibre_57 : decode cX12_fibre 57 = .ok (.iload_n 1, 1) := by decide +kernel
theorem dX12_fibre_58 : decode cX12_fibre 58 = .ok (.imul, 1) := by decide +kernel
theorem dX12_fibre_59 : decode cX12_fibre 59 = .ok (.iload_n 3, 1) := by decide +kernel
theorem dX12_fibre_60 : decode cX12_fibre 60 = .ok (.iadd, 1) := by decide +kernel
theorem dX12_fibre_61 : decode cX12_fibre 61 = .ok (.iaload, 1) := by decide +kernel
theorem dX12_fibre_62 : decode cX12_fibre 62 = .ok (.goto 14, 3) := by decide +kernel
theorem dX12_fibre_65 : decode cX12_fibre 65 = .ok (.aload_n 0, 1) := by decide +kernel
theorem dX12_fibre_66 : decode cX12_fibre 66 = .ok (.getfield 23, 3) := by decide +kernel
theorem dX12_fibre_69 : decode cX12_fibre 69 = .ok (.bipush 10, 2) := by decide +kernel
theorem dX12_fibre_71 : decode cX12_fibre 71 = .ok (.iload_n 1, 1) := by decide +kernel
theorem dX12_fibre_72 : decode cX12_fibre 72 = .ok (.imul, 1) := by decide +kernel
theorem dX12_fibre_73 : decode cX12_fibre 73 = .ok (.iload_n 3, 1) := by decide +kernel
theorem dX12_fibre_74 : decode cX12_fibre 74 = .ok (.iadd, 1) := by decide +kernel
theorem dX12_fibre_75 : decode cX12_fibre 75 = .ok (.iaload, 1) := by decide +kernel
theorem dX12_fibre_76 : decode cX12_fibre 76 = .ok (.istore 5, 2) := by decide +kernel
theorem dX12_fibre_78 : decode cX12_fibre 78 = .ok (.iload_n 2, 1) := by decide +kernel
theorem dX12_fibre_79 : decode cX12_fibre 79 = .ok (.ifCond .eq 18, 3) := by decide +kernel
theorem dX12_fibre_82 : decode cX12_fibre 82 = .ok (.aload_n 0, 1) := by decide +kernel
theorem dX12_fibre_83 : decode cX12_fibre 83 = .ok (.getfield 20, 3) := by decide +kernel
theorem dX12_fibre_86 : decode cX12_fibre 86 = .ok (.iconst 5, 1) := by decide +kernel
theorem dX12_fibre_87 : decode cX12_fibre 87 = .ok (.iload_n 1, 1) := by decide +kernel
theorem dX12_fibre_88 : decode cX12_fibre 88 = .ok (.imul, 1) := by decide +kernel
theorem dX12_fibre_89 : decode cX12_fibre 89 = .ok (.iload_n 3, 1) := by decide +kernel
theorem dX12_fibre_90 : decode cX12_fibre 90 = .ok (.iadd, 1) := by decide +kernel
theorem dX12_fibre_91 : decode cX12_fibre 91 = .ok (.iload 4, 2) := by decide +kernel
theorem dX12_fibre_93 : decode cX12_fibre 93 = .ok (.iastore, 1) := by decide +kernel
theorem dX12_fibre_94 : decode cX12_fibre 94 = .ok (.goto 16, 3) := by decide +kernel
theorem dX12_fibre_97 : decode cX12_fibre 97 = .ok (.aload_n 0, 1) := by decide +kernel
theorem dX12_fibre_98 : decode cX12_fibre 98 = .ok (.getfield 23, 3) := by decide +kernel
theorem dX12_fibre_101 : decode cX12_fibre 101 = .ok (.bipush 10, 2) := by decide +kernel
theorem dX12_fibre_103 : decode cX12_fibre 103 = .ok (.iload_n 1, 1) := by decide +kernel
theorem dX12_fibre_104 : decode cX12_fibre 104 = .ok (.imul, 1) := by decide +kernel
theorem dX12_fibre_105 : decode cX12_fibre 105 = .ok (.iload_n 3, 1) := by decide +kernel
theorem dX12_fibre_106 : decode cX12_fibre 106 = .ok (.iadd, 1) := by decide +kernel
theorem dX12_fibre_107 : decode cX12_fibre 107 = .ok (.iload 4, 2) := by decide +kernel
theorem dX12_fibre_109 : decode cX12_fibre 109 = .ok (.iastore, 1) := by decide +kernel
theorem dX12_fibre_110 : decode cX12_fibre 110 = .ok (.iload 5, 2) := by decide +kernel
theorem dX12_fibre_112 : decode cX12_fibre 112 = .ok (.ireturn, 1) := by decide +kernel
theorem dX12_word_0 : decode cX12_word 0 = .ok (.aload_n 0, 1) := by decide +kernel
theorem dX12_word_1 : decode cX12_word 1 = .ok (.getfield 65, 3) := by decide +kernel
theorem dX12_word_4 : decode cX12_word 4 = .ok (.istore_n 1, 1) := by decide +kernel
theorem dX12_word_5 : decode cX12_word 5 = .ok (.aload_n 0, 1) := by decide +kernel
theorem dX12_word_6 : decode cX12_word 6 = .ok (.iconst 0, 1) := by decide +kernel
theorem dX12_word_7 : decode cX12_word 7 = .ok (.putfield 65, 3) := by decide +kernel
theorem dX12_word_10 : decode cX12_word 10 = .ok (.iload_n 1, 1) := by decide +kernel
theorem dX12_word_11 : decode cX12_word 11 = .ok (.iconst 1, 1) := by decide +kernel
theorem dX12_word_12 : decode cX12_word 12 = .ok (.if_icmp .lt 18, 3) := by decide +kernel
theorem dX12_word_15 : decode cX12_word 15 = .ok (.iload_n 1, 1) := by decide +kernel
theorem dX12_word_16 : decode cX12_word 16 = .ok (.bipush 10, 2) := by decide +kernel
theorem dX12_word_18 : decode cX12_word 18 = .ok (.if_icmp .gt 12, 3) := by decide +kernel
theorem dX12_word_21 : decode cX12_word 21 = .ok (.aload_n 0, 1) := by decide +kernel
theorem dX12_word_22 : decode cX12_word 22 = .ok (.getfield 83, 3) := by decide +kernel
theorem dX12_word_25 : decode cX12_word 25 = .ok (.bipush 12, 2) := by decide +kernel
theorem dX12_word_27 : decode cX12_word 27 = .ok (.if_icmp .ne 5, 3) := by decide +kernel
theorem dX12_word_30 : decode cX12_word 30 = .ok (.iconst (-1), 1) := by decide +kernel
theorem dX12_word_31 : decode cX12_word 31 = .ok (.ireturn, 1) := by decide +kernel
theorem dX12_word_32 : decode cX12_word 32 = .ok (.iconst 0, 1) := by decide +kernel
theorem dX12_word_33 : decode cX12_word 33 = .ok (.istore_n 2, 1) := by decide +kernel
theorem dX12_word_34 : decode cX12_word 34 = .ok (.iload_n 2, 1) := by decide +kernel
theorem dX12_word_35 : decode cX12_word 35 = .ok (.iload_n 1, 1) := by decide +kernel
theorem dX12_word_36 : decode cX12_word 36 = .ok (.if_icmp .ge 23, 3) := by decide +kernel
theorem dX12_word_39 : decode cX12_word 39 = .ok (.aload_n 0, 1) := by decide +kernel
theorem dX12_word_40 : decode cX12_word 40 = .ok (.getfield 7, 3) := by decide +kernel
theorem dX12_word_43 : decode cX12_word 43 = .ok (.iload_n 2, 1) := by decide +kernel
theorem dX12_word_44 : decode cX12_word 44 = .ok (.iaload, 1) := by decide +kernel
theorem dX12_word_45 : decode cX12_word 45 = .ok (.invokestatic 73, 3) := by decide +kernel
theorem dX12_word_48 : decode cX12_word 48 = .ok (.ifCond .ne 5, 3) := by decide +kernel
theorem dX12_word_51 : decode cX12_word 51 = .ok (.iconst (-1), 1) := by decide +kernel
theorem dX12_word_52 : decode cX12_word 52 = .ok (.ireturn, 1) := by decide +kernel
theorem dX12_word_53 : decode cX12_word 53 = .ok (.iinc 2 1, 3) := by decide +kernel
theorem dX12_word_56 : decode cX12_word 56 = .ok (.goto (-22), 3) := by decide +kernel
theorem dX12_word_59 : decode cX12_word 59 = .ok (.aload_n 0, 1) := by decide +kernel
theorem dX12_word_60 : decode cX12_word 60 = .ok (.getfield 44, 3) := by decide +kernel
theorem dX12_word_63 : decode cX12_word 63 = .ok (.aload_n 0, 1) := by decide +kernel
theorem dX12_word_64 : decode cX12_word 64 = .ok (.getfield 83, 3) := by decide +kernel
theorem dX12_word_67 : decode cX12_word 67 = .ok (.iload_n 1, 1) := by decide +kernel
theorem dX12_word_68 : decode cX12_word 68 = .ok (.iastore, 1) := by decide +kernel
theorem dX12_word_69 : decode cX12_word 69 = .ok (.iconst 0, 1) := by decide +kernel
theorem dX12_word_70 : decode cX12_word 70 = .ok (.istore_n 2, 1) := by decide +kernel
theorem dX12_word_71 : decode cX12_word 71 = .ok (.iload_n 2, 1) := by decide +kernel
theorem dX12_word_72 : decode cX12_word 72 = .ok (.iload_n 1, 1) := by decide +kernel
theorem dX12_word_73 : decode cX12_word 73 = .ok (.if_icmp .ge 29, 3) := by decide +kernel
theorem dX12_word_76 : decode cX12_word 76 = .ok (.aload_n 0, 1) := by decide +kernel
theorem dX12_word_77 : decode cX12_word 77 = .ok (.getfield 47, 3) := by decide +kernel
theorem dX12_word_80 : decode cX12_word 80 = .ok (.bipush 10, 2) := by decide +kernel
theorem dX12_word_82 : decode cX12_word 82 = .ok (.aload_n 0, 1) := by decide +kernel
theorem dX12_word_83 : decode cX12_word 83 = .ok (.getfield 83, 3) := by decide +kernel
theorem dX12_word_86 : decode cX12_word 86 = .ok (.imul, 1) := by decide +kernel
theorem dX12_word_87 : decode cX12_word 87 = .ok (.iload_n 2, 1) := by decide +kernel
theorem dX12_word_88 : decode cX12_word 88 = .ok (.iadd, 1) := by decide +kernel
theorem dX12_word_89 : decode cX12_word 89 = .ok (.aload_n 0, 1) := by decide +kernel
theorem dX12_word_90 : decode cX12_word 90 = .ok (.getfield 7, 3) := by decide +kernel
theorem dX12_word_93 : decode cX12_word 93 = .ok (.iload_n 2, 1) := by decide +kernel
theorem dX12_word_94 : decode cX12_word 94 = .ok (.iaload, 1) := by decide +kernel
theorem dX12_word_95 : decode cX12_word 95 = .ok (.iastore, 1) := by decide +kernel
theorem dX12_word_96 : decode cX12_word 96 = .ok (.iinc 2 1, 3) := by decide +kernel
theorem dX12_word_99 : decode cX12_word 99 = .ok (.goto (-28), 3) := by decide +kernel
theorem dX12_word_102 : decode cX12_word 102 = .ok (.aload_n 0, 1) := by decide +kernel
theorem dX12_word_103 : decode cX12_word 103 = .ok (.dup, 1) := by decide +kernel
theorem dX12_word_104 : decode cX12_word 104 = .ok (.getfield 83, 3) := by decide +kernel
theorem dX12_word_107 : decode cX12_word 107 = .ok (.iconst 1, 1) := by decide +kernel
theorem dX12_word_108 : decode cX12_word 108 = .ok (.iadd, 1) := by decide +kernel
theorem dX12_word_109 : decode cX12_word 109 = .ok (.putfield 83, 3) := by decide +kernel
theorem dX12_word_112 : decode cX12_word 112 = .ok (.aload_n 0, 1) := by decide +kernel
theorem dX12_word_113 : decode cX12_word 113 = .ok (.getfield 83, 3) := by decide +kernel
theorem dX12_word_116 : decode cX12_word 116 = .ok (.ireturn, 1) := by decide +kernel
theorem dX12_at_0 : decode cX12_at 0 = .ok (.aload_n 0, 1) := by decide +kernel
theorem dX12_at_1 : decode cX12_at 1 = .ok (.getfield 17, 3) := by decide +kernel
theorem dX12_at_4 : decode cX12_at 4 = .ok (.bipush 50, 2) := by decide +kernel
theorem dX12_at_6 : decode cX12_at 6 = .ok (.iload_n 1, 1) := by decide +kernel
theorem dX12_at_7 : decode cX12_at 7 = .ok (.imul, 1) := by decide +kernel
theorem dX12_at_8 : decode cX12_at 8 = .ok (.bipush 10, 2) := by decide +kernel
theorem dX12_at_10 : decode cX12_at 10 = .ok (.iload_n 2, 1) := by decide +kernel
theorem dX12_at_11 : decode cX12_at 11 = .ok (.imul, 1) := by decide +kernel
theorem dX12_at_12 : decode cX12_at 12 = .ok (.iadd, 1) := by decide +kernel
theorem dX12_at_13 : decode cX12_at 13 = .ok (.iload_n 3, 1) := by decide +kernel
theorem dX12_at_14 : decode cX12_at 14 = .ok (.iadd, 1) := by decide +kernel
theorem dX12_at_15 : decode cX12_at 15 = .ok (.iaload, 1) := by decide +kernel
theorem dX12_at_16 : decode cX12_at 16 = .ok (.ireturn, 1) := by decide +kernel
theorem dX12_lays_0 : decode cX12_lays 0 = .ok (.iconst 0, 1) := by decide +kernel
theorem dX12_lays_1 : decode cX12_lays 1 = .ok (.istore_n 2, 1) := by decide +kernel
theorem dX12_lays_2 : decode cX12_lays 2 = .ok (.iload_n 2, 1) := by decide +kernel
theorem dX12_lays_3 : decode cX12_lays 3 = .ok (.iconst 5, 1) := by decide +kernel
theorem dX12_lays_4 : decode cX12_lays 4 = .ok (.if_icmp .ge 133, 3) := by decide +kernel
theorem dX12_lays_7 : decode cX12_lays 7 = .ok (.iconst 0, 1) := by decide +kernel
theorem dX12_lays_8 : decode cX12_lays 8 = .ok (.istore_n 3, 1) := by decide +kernel
theorem dX12_lays_9 : decode cX12_lays 9 = .ok (.iload_n 3, 1) := by decide +kernel
theorem dX12_lays_10 : decode cX12_lays 10 = .ok (.bipush 10, 2) := by decide +kernel
theorem dX12_lays_12 : decode cX12_lays 12 = .ok (.if_icmp .ge 119, 3) := by decide +kernel
theorem dX12_lays_15 : decode cX12_lays 15 = .ok (.aload_n 0, 1) := by decide +kernel
theorem dX12_lays_16 : decode cX12_lays 16 = .ok (.iload_n 1, 1) := by decide +kernel
theorem dX12_lays_17 : decode cX12_lays 17 = .ok (.iload_n 2, 1) := by decide +kernel
theorem dX12_lays_18 : decode cX12_lays 18 = .ok (.iload_n 3, 1) := by decide +kernel
theorem dX12_lays_19 : decode cX12_lays 19 = .ok (.invokevirtual 86, 3) := by decide +kernel
theorem dX12_lays_22 : decode cX12_lays 22 = .ok (.bipush 95, 2) := by decide +kernel
theorem dX12_lays_24 : decode cX12_lays 24 = .ok (.if_icmp .ne 6, 3) := by decide +kernel
theorem dX12_lays_27 : decode cX12_lays 27 = .ok (.goto 98, 3) := by decide +kernel
theorem dX12_lays_30 : decode cX12_lays 30 = .ok (.aload_n 0, 1) := by decide +kernel
theorem dX12_lays_31 : decode cX12_lays 31 = .ok (.getfield 29, 3) := by decide +kernel
theorem dX12_lays_34 : decode cX12_lays 34 = .ok (.iload_n 1, 1) := by decide +kernel
theorem dX12_lays_35 : decode cX12_lays 35 = .ok (.iaload, 1) := by decide +kernel
theorem dX12_lays_36 : decode cX12_lays 36 = .ok (.iload_n 2, 1) := by decide +kernel
theorem dX12_lays_37 : decode cX12_lays 37 = .ok (.iadd, 1) := by decide +kernel
theorem dX12_lays_38 : decode cX12_lays 38 = .ok (.istore 4, 2) := by decide +kernel
theorem dX12_lays_40 : decode cX12_lays 40 = .ok (.aload_n 0, 1) := by decide +kernel
theorem dX12_lays_41 : decode cX12_lays 41 = .ok (.getfield 32, 3) := by decide +kernel
theorem dX12_lays_44 : decode cX12_lays 44 = .ok (.iload_n 1, 1) := by decide +kernel
theorem dX12_lays_45 : decode cX12_lays 45 = .ok (.iaload, 1) := by decide +kernel
theorem dX12_lays_46 : decode cX12_lays 46 = .ok (.iload_n 3, 1) := by decide +kernel
theorem dX12_lays_47 : decode cX12_lays 47 = .ok (.iadd, 1) := by decide +kernel
theorem dX12_lays_48 : decode cX12_lays 48 = .ok (.istore 5, 2) := by decide +kernel
theorem dX12_lays_50 : decode cX12_lays 50 = .ok (.iload 4, 2) := by decide +kernel
theorem dX12_lays_52 : decode cX12_lays 52 = .ok (.iconst 0, 1) := by decide +kernel
theorem dX12_lays_53 : decode cX12_lays 53 = .ok (.bipush 15, 2) := by decide +kernel
theorem dX12_lays_55 : decode cX12_lays 55 = .ok (.invokestatic 69, 3) := by decide +kernel
theorem dX12_lays_58 : decode cX12_lays 58 = .ok (.ifCond .eq 31, 3) := by decide +kernel
theorem dX12_lays_61 : decode cX12_lays 61 = .ok (.iload 5, 2) := by decide +kernel
theorem dX12_lays_63 : decode cX12_lays 63 = .ok (.iconst 0, 1) := by decide +kernel
theorem dX12_lays_64 : decode cX12_lays 64 = .ok (.bipush 31, 2) := by decide +kernel
theorem dX12_lays_66 : decode cX12_lays 66 = .ok (.invokestatic 69, 3) := by decide +kernel
theorem dX12_lays_69 : decode cX12_lays 69 = .ok (.ifCond .eq 20, 3) := by decide +kernel
theorem dX12_lays_72 : decode cX12_lays 72 = .ok (.aload_n 0, 1) := by decide +kernel
theorem dX12_lays_73 : decode cX12_lays 73 = .ok (.getfield 53, 3) := by decide +kernel
theorem dX12_lays_76 : decode cX12_lays 76 = .ok (.bipush 32, 2) := by decide +kernel
theorem dX12_lays_78 : decode cX12_lays 78 = .ok (.iload 4, 2) := by decide +kernel
theorem dX12_lays_80 : decode cX12_lays 80 = .ok (.imul, 1) := by decide +kernel
theorem dX12_lays_81 : decode cX12_lays 81 = .ok (.iload 5, 2) := by decide +kernel
theorem dX12_lays_83 : decode cX12_lays 83 = .ok (.iadd, 1) := by decide +kernel
theorem dX12_lays_84 : decode cX12_lays 84 = .ok (.iaload, 1) := by decide +kernel
theorem dX12_lays_85 : decode cX12_lays 85 = .ok (.iconst (-1), 1) := by decide +kernel
theorem dX12_lays_86 : decode cX12_lays 86 = .ok (.if_icmp .eq 5, 3) := by decide +kernel
theorem dX12_lays_89 : decode cX12_lays 89 = .ok (.iconst 0, 1) := by decide +kernel
theorem dX12_lays_90 : decode cX12_lays 90 = .ok (.ireturn, 1) := by decide +kernel
theorem dX12_lays_91 : decode cX12_lays 91 = .ok (.aload_n 0, 1) := by decide +kernel
theorem dX12_lays_92 : decode cX12_lays 92 = .ok (.getfield 53, 3) := by decide +kernel
theorem dX12_lays_95 : decode cX12_lays 95 = .ok (.bipush 32, 2) := by decide +kernel
theorem dX12_lays_97 : decode cX12_lays 97 = .ok (.iload 4, 2) := by decide +kernel
theorem dX12_lays_99 : decode cX12_lays 99 = .ok (.imul, 1) := by decide +kernel
theorem dX12_lays_100 : decode cX12_lays 100 = .ok (.iload 5, 2) := by decide +kernel
theorem dX12_lays_102 : decode cX12_lays 102 = .ok (.iadd, 1) := by decide +kernel
theorem dX12_lays_103 : decode cX12_lays 103 = .ok (.iload_n 1, 1) := by decide +kernel
theorem dX12_lays_104 : decode cX12_lays 104 = .ok (.iastore, 1) := by decide +kernel
theorem dX12_lays_105 : decode cX12_lays 105 = .ok (.aload_n 0, 1) := by decide +kernel
theorem dX12_lays_106 : decode cX12_lays 106 = .ok (.getfield 50, 3) := by decide +kernel
theorem dX12_lays_109 : decode cX12_lays 109 = .ok (.bipush 32, 2) := by decide +kernel
theorem dX12_lays_111 : decode cX12_lays 111 = .ok (.iload 4, 2) := by decide +kernel
theorem dX12_lays_113 : decode cX12_lays 113 = .ok (.imul, 1) := by decide +kernel
theorem dX12_lays_114 : decode cX12_lays 114 = .ok (.iload 5, 2) := by decide +kernel
theorem dX12_lays_116 : decode cX12_lays 116 = .ok (.iadd, 1) := by decide +kernel
theorem dX12_lays_117 : decode cX12_lays 117 = .ok (.aload_n 0, 1) := by decide +kernel
theorem dX12_lays_118 : decode cX12_lays 118 = .ok (.iload_n 1, 1) := by decide +kernel
theorem dX12_lays_119 : decode cX12_lays 119 = .ok (.iload_n 2, 1) := by decide +kernel
theorem dX12_lays_120 : decode cX12_lays 120 = .ok (.iload_n 3, 1) := by decide +kernel
theorem dX12_lays_121 : decode cX12_lays 121 = .ok (.invokevirtual 86, 3) := by decide +kernel
theorem dX12_lays_124 : decode cX12_lays 124 = .ok (.iastore, 1) := by decide +kernel
theorem dX12_lays_125 : decode cX12_lays 125 = .ok (.iinc 3 1, 3) := by decide +kernel
theorem dX12_lays_128 : decode cX12_lays 128 = .ok (.goto (-119), 3) := by decide +kernel
theorem dX12_lays_131 : decode cX12_lays 131 = .ok (.iinc 2 1, 3) := by decide +kernel
theorem dX12_lays_134 : decode cX12_lays 134 = .ok (.goto (-132), 3) := by decide +kernel
theorem dX12_lays_137 : decode cX12_lays 137 = .ok (.iconst 1, 1) := by decide +kernel
theorem dX12_lays_138 : decode cX12_lays 138 = .ok (.ireturn, 1) := by decide +kernel
theorem dX12_laysAll_0 : decode cX12_laysAll 0 = .ok (.iconst 0, 1) := by decide +kernel
theorem dX12_laysAll_1 : decode cX12_laysAll 1 = .ok (.istore_n 1, 1) := by decide +kernel
theorem dX12_laysAll_2 : decode cX12_laysAll 2 = .ok (.iload_n 1, 1) := by decide +kernel
theorem dX12_laysAll_3 : decode cX12_laysAll 3 = .ok (.sipush 512, 3) := by decide +kernel
theorem dX12_laysAll_6 : decode cX12_laysAll 6 = .ok (.if_icmp .ge 24, 3) := by decide +kernel
theorem dX12_laysAll_9 : decode cX12_laysAll 9 = .ok (.aload_n 0, 1) := by decide +kernel
theorem dX12_laysAll_10 : decode cX12_laysAll 10 = .ok (.getfield 50, 3) := by decide +kernel
theorem dX12_laysAll_13 : decode cX12_laysAll 13 = .ok (.iload_n 1, 1) := by decide +kernel
theorem dX12_laysAll_14 : decode cX12_laysAll 14 = .ok (.bipush 95, 2) := by decide +kernel
theorem dX12_laysAll_16 : decode cX12_laysAll 16 = .ok (.iastore, 1) := by decide +kernel
theorem dX12_laysAll_17 : decode cX12_laysAll 17 = .ok (.aload_n 0, 1) := by decide +kernel
theorem dX12_laysAll_18 : decode cX12_laysAll 18 = .ok (.getfield 53, 3) := by decide +kernel
theorem dX12_laysAll_21 : decode cX12_laysAll 21 = .ok (.iload_n 1, 1) := by decide +kernel
theorem dX12_laysAll_22 : decode cX12_laysAll 22 = .ok (.iconst (-1), 1) := by decide +kernel
theorem dX12_laysAll_23 : decode cX12_laysAll 23 = .ok (.iastore, 1) := by decide +kernel
theorem dX12_laysAll_24 : decode cX12_laysAll 24 = .ok (.iinc 1 1, 3) := by decide +kernel
theorem dX12_laysAll_27 : decode cX12_laysAll 27 = .ok (.goto (-25), 3) := by decide +kernel
theorem dX12_laysAll_30 : decode cX12_laysAll 30 = .ok (.iconst 0, 1) := by decide +kernel
theorem dX12_laysAll_31 : decode cX12_laysAll 31 = .ok (.istore_n 1, 1) := by decide +kernel
theorem dX12_laysAll_32 : decode cX12_laysAll 32 = .ok (.iload_n 1, 1) := by decide +kernel
theorem dX12_laysAll_33 : decode cX12_laysAll 33 = .ok (.bipush 10, 2) := by decide +kernel
theorem dX12_laysAll_35 : decode cX12_laysAll 35 = .ok (.if_icmp .ge 28, 3) := by decide +kernel
theorem dX12_laysAll_38 : decode cX12_laysAll 38 = .ok (.aload_n 0, 1) := by decide +kernel
theorem dX12_laysAll_39 : decode cX12_laysAll 39 = .ok (.getfield 26, 3) := by decide +kernel
theorem dX12_laysAll_42 : decode cX12_laysAll 42 = .ok (.iload_n 1, 1) := by decide +kernel
theorem dX12_laysAll_43 : decode cX12_laysAll 43 = .ok (.baload, 1) := by decide +kernel
theorem dX12_laysAll_44 : decode cX12_laysAll 44 = .ok (.ifCond .eq 13, 3) := by decide +kernel
theorem dX12_laysAll_47 : decode cX12_laysAll 47 = .ok (.aload_n 0, 1) := by decide +kernel
theorem dX12_laysAll_48 : decode cX12_laysAll 48 = .ok (.iload_n 1, 1) := by decide +kernel
theorem dX12_laysAll_49 : decode cX12_laysAll 49 = .ok (.invokevirtual 90, 3) := by decide +kernel
theorem dX12_laysAll_52 : decode cX12_laysAll 52 = .ok (.ifCond .ne 5, 3) := by decide +kernel
theorem dX12_laysAll_55 : decode cX12_laysAll 55 = .ok (.iconst 0, 1) := by decide +kernel
theorem dX12_laysAll_56 : decode cX12_laysAll 56 = .ok (.ireturn, 1) := by decide +kernel
theorem dX12_laysAll_57 : decode cX12_laysAll 57 = .ok (.iinc 1 1, 3) := by decide +kernel
theorem dX12_laysAll_60 : decode cX12_laysAll 60 = .ok (.goto (-28), 3) := by decide +kernel
theorem dX12_laysAll_63 : decode cX12_laysAll 63 = .ok (.iconst 1, 1) := by decide +kernel
theorem dX12_laysAll_64 : decode cX12_laysAll 64 = .ok (.ireturn, 1) := by decide +kernel
theorem dX12_hasInRow_0 : decode cX12_hasInRow 0 = .ok (.iload_n 2, 1) := by decide +kernel
theorem dX12_hasInRow_1 : decode cX12_hasInRow 1 = .ok (.aload_n 0, 1) := by decide +kernel
theorem dX12_hasInRow_2 : decode cX12_hasInRow 2 = .ok (.getfield 29, 3) := by decide +kernel
theorem dX12_hasInRow_5 : decode cX12_hasInRow 5 = .ok (.iload_n 1, 1) := by decide +kernel
theorem dX12_hasInRow_6 : decode cX12_hasInRow 6 = .ok (.iaload, 1) := by decide +kernel
theorem dX12_hasInRow_7 : decode cX12_hasInRow 7 = .ok (.isub, 1) := by decide +kernel
theorem dX12_hasInRow_8 : decode cX12_hasInRow 8 = .ok (.istore_n 3, 1) := by decide +kernel
theorem dX12_hasInRow_9 : decode cX12_hasInRow 9 = .ok (.iload_n 3, 1) := by decide +kernel
theorem dX12_hasInRow_10 : decode cX12_hasInRow 10 = .ok (.iconst 0, 1) := by decide +kernel
theorem dX12_hasInRow_11 : decode cX12_hasInRow 11 = .ok (.iconst 4, 1) := by decide +kernel
theorem dX12_hasInRow_12 : decode cX12_hasInRow 12 = .ok (.invokestatic 69, 3) := by decide +kernel
theorem dX12_hasInRow_15 : decode cX12_hasInRow 15 = .ok (.ifCond .ne 5, 3) := by decide +kernel
theorem dX12_hasInRow_18 : decode cX12_hasInRow 18 = .ok (.iconst 0, 1) := by decide +kernel
theorem dX12_hasInRow_19 : decode cX12_hasInRow 19 = .ok (.ireturn, 1) := by decide +kernel
theorem dX12_hasInRow_20 : decode cX12_hasInRow 20 = .ok (.iconst 0, 1) := by decide +kernel
theorem dX12_hasInRow_21 : decode cX12_hasInRow 21 = .ok (.istore 4, 2) := by decide +kernel
theorem dX12_hasInRow_23 : decode cX12_hasInRow 23 = .ok (.iload 4, 2) := by decide +kernel
theorem dX12_hasInRow_25 : decode cX12_hasInRow 25 = .ok (.bipush 10, 2) := by decide +kernel
theorem dX12_hasInRow_27 : decode cX12_hasInRow 27 = .ok (.if_icmp .ge 24, 3) := by decide +kernel
theorem dX12_hasInRow_30 : decode cX12_hasInRow 30 = .ok (.aload_n 0, 1) := by decide +kernel
theorem dX12_hasInRow_31 : decode cX12_hasInRow 31 = .ok (.iload_n 1, 1) := by decide +kernel
theorem dX12_hasInRow_32 : decode cX12_hasInRow 32 = .ok (.iload_n 3, 1) := by decide +kernel
theorem dX12_hasInRow_33 : decode cX12_hasInRow 33 = .ok (.iload 4, 2) := by decide +kernel
theorem dX12_hasInRow_35 : decode cX12_hasInRow 35 = .ok (.invokevirtual 86, 3) := by decide +kernel
theorem dX12_hasInRow_38 : decode cX12_hasInRow 38 = .ok (.bipush 95, 2) := by decide +kernel
theorem dX12_hasInRow_40 : decode cX12_hasInRow 40 = .ok (.if_icmp .eq 5, 3) := by decide +kernel
theorem dX12_hasInRow_43 : decode cX12_hasInRow 43 = .ok (.iconst 1, 1) := by decide +kernel
theorem dX12_hasInRow_44 : decode cX12_hasInRow 44 = .ok (.ireturn, 1) := by decide +kernel
theorem dX12_hasInRow_45 : decode cX12_hasInRow 45 = .ok (.iinc 4 1, 3) := by decide +kernel
theorem dX12_hasInRow_48 : decode cX12_hasInRow 48 = .ok (.goto (-25), 3) := by decide +kernel
theorem dX12_hasInRow_51 : decode cX12_hasInRow 51 = .ok (.iconst 0, 1) := by decide +kernel
theorem dX12_hasInRow_52 : decode cX12_hasInRow 52 = .ok (.ireturn, 1) := by decide +kernel
theorem dX12_hasInColumn_0 : decode cX12_hasInColumn 0 = .ok (.iload_n 2, 1) := by decide +kernel
theorem dX12_hasInColumn_1 : decode cX12_hasInColumn 1 = .ok (.aload_n 0, 1) := by decide +kernel
theorem dX12_hasInColumn_2 : decode cX12_hasInColumn 2 = .ok (.getfield 32, 3) := by decide +kernel
theorem dX12_hasInColumn_5 : decode cX12_hasInColumn 5 = .ok (.iload_n 1, 1) := by decide +kernel
theorem dX12_hasInColumn_6 : decode cX12_hasInColumn 6 = .ok (.iaload, 1) := by decide +kernel
theorem dX12_hasInColumn_7 : decode cX12_hasInColumn 7 = .ok (.isub, 1) := by decide +kernel
theorem dX12_hasInColumn_8 : decode cX12_hasInColumn 8 = .ok (.istore_n 3, 1) := by decide +kernel
theorem dX12_hasInColumn_9 : decode cX12_hasInColumn 9 = .ok (.iload_n 3, 1) := by decide +kernel
theorem dX12_hasInColumn_10 : decode cX12_hasInColumn 10 = .ok (.iconst 0, 1) := by decide +kernel
theorem dX12_hasInColumn_11 : decode cX12_hasInColumn 11 = .ok (.bipush 9, 2) := by decide +kernel
theorem dX12_hasInColumn_13 : decode cX12_hasInColumn 13 = .ok (.invokestatic 69, 3) := by decide +kernel
theorem dX12_hasInColumn_16 : decode cX12_hasInColumn 16 = .ok (.ifCond .ne 5, 3) := by decide +kernel
theorem dX12_hasInColumn_19 : decode cX12_hasInColumn 19 = .ok (.iconst 0, 1) := by decide +kernel
theorem dX12_hasInColumn_20 : decode cX12_hasInColumn 20 = .ok (.ireturn, 1) := by decide +kernel
theorem dX12_hasInColumn_21 : decode cX12_hasInColumn 21 = .ok (.iconst 0, 1) := by decide +kernel
theorem dX12_hasInColumn_22 : decode cX12_hasInColumn 22 = .ok (.istore 4, 2) := by decide +kernel
theorem dX12_hasInColumn_24 : decode cX12_hasInColumn 24 = .ok (.iload 4, 2) := by decide +kernel
theorem dX12_hasInColumn_26 : decode cX12_hasInColumn 26 = .ok (.iconst 5, 1) := by decide +kernel
theorem dX12_hasInColumn_27 : decode cX12_hasInColumn 27 = .ok (.if_icmp .ge 24, 3) := by decide +kernel
theorem dX12_hasInColumn_30 : decode cX12_hasInColumn 30 = .ok (.aload_n 0, 1) := by decide +kernel
theorem dX12_hasInColumn_31 : decode cX12_hasInColumn 31 = .ok (.iload_n 1, 1) := by decide +kernel
theorem dX12_hasInColumn_32 : decode cX12_hasInColumn 32 = .ok (.iload 4, 2) := by decide +kernel
theorem dX12_hasInColumn_34 : decode cX12_hasInColumn 34 = .ok (.iload_n 3, 1) := by decide +kernel
theorem dX12_hasInColumn_35 : decode cX12_hasInColumn 35 = .ok (.invokevirtual 86, 3) := by decide +kernel
theorem dX12_hasInColumn_38 : decode cX12_hasInColumn 38 = .ok (.bipush 95, 2) := by decide +kernel
theorem dX12_hasInColumn_40 : decode cX12_hasInColumn 40 = .ok (.if_icmp .eq 5, 3) := by decide +kernel
theorem dX12_hasInColumn_43 : decode cX12_hasInColumn 43 = .ok (.iconst 1, 1) := by decide +kernel
theorem dX12_hasInColumn_44 : decode cX12_hasInColumn 44 = .ok (.ireturn, 1) := by decide +kernel
theorem dX12_hasInColumn_45 : decode cX12_hasInColumn 45 = .ok (.iinc 4 1, 3) := by decide +kernel
theorem dX12_hasInColumn_48 : decode cX12_hasInColumn 48 = .ok (.goto (-24), 3) := by decide +kernel
theorem dX12_hasInColumn_51 : decode cX12_hasInColumn 51 = .ok (.iconst 0, 1) := by decide +kernel
theorem dX12_hasInColumn_52 : decode cX12_hasInColumn 52 = .ok (.ireturn, 1) := by decide +kernel
theorem dX12_acrossOf_0 : decode cX12_acrossOf 0 = .ok (.aload_n 0, 1) := by decide +kernel
theorem dX12_acrossOf_1 : decode cX12_acrossOf 1 = .ok (.iload_n 1, 1) := by decide +kernel
theorem dX12_acrossOf_2 : decode cX12_acrossOf 2 = .ok (.iload_n 3, 1) := by decide +kernel
theorem dX12_acrossOf_3 : decode cX12_acrossOf 3 = .ok (.invokevirtual 93, 3) := by decide +kernel
theorem dX12_acrossOf_6 : decode cX12_acrossOf 6 = .ok (.ifCond .eq 12, 3) := by decide +kernel
theorem dX12_acrossOf_9 : decode cX12_acrossOf 9 = .ok (.aload_n 0, 1) := by decide +kernel
theorem dX12_acrossOf_10 : decode cX12_acrossOf 10 = .ok (.iload_n 2, 1) := by decide +kernel
theorem dX12_acrossOf_11 : decode cX12_acrossOf 11 = .ok (.iload_n 3, 1) := by decide +kernel
theorem dX12_acrossOf_12 : decode cX12_acrossOf 12 = .ok (.invokevirtual 93, 3) := by decide +kernel
theorem dX12_acrossOf_15 : decode cX12_acrossOf 15 = .ok (.ifCond .ne 5, 3) := by decide +kernel
theorem dX12_acrossOf_18 : decode cX12_acrossOf 18 = .ok (.iconst 0, 1) := by decide +kernel
theorem dX12_acrossOf_19 : decode cX12_acrossOf 19 = .ok (.ireturn, 1) := by decide +kernel
theorem dX12_acrossOf_20 : decode cX12_acrossOf 20 = .ok (.aload_n 0, 1) := by decide +kernel
theorem dX12_acrossOf_21 : decode cX12_acrossOf 21 = .ok (.getfield 20, 3) := by decide +kernel
theorem dX12_acrossOf_24 : decode cX12_acrossOf 24 = .ok (.iconst 5, 1) := by decide +kernel
theorem dX12_acrossOf_25 : decode cX12_acrossOf 25 = .ok (.iload_n 1, 1) := by decide +kernel
theorem dX12_acrossOf_26 : decode cX12_acrossOf 26 = .ok (.imul, 1) := by decide +kernel
theorem dX12_acrossOf_27 : decode cX12_acrossOf 27 = .ok (.iload_n 3, 1) := by decide +kernel
theorem dX12_acrossOf_28 : decode cX12_acrossOf 28 = .ok (.iadd, 1) := by decide +kernel
theorem dX12_acrossOf_29 : decode cX12_acrossOf 29 = .ok (.aload_n 0, 1) := by decide +kernel
theorem dX12_acrossOf_30 : decode cX12_acrossOf 30 = .ok (.getfield 29, 3) := by decide +kernel
theorem dX12_acrossOf_33 : decode cX12_acrossOf 33 = .ok (.iload_n 1, 1) := by decide +kernel
theorem dX12_acrossOf_34 : decode cX12_acrossOf 34 = .ok (.iaload, 1) := by decide +kernel
theorem dX12_acrossOf_35 : decode cX12_acrossOf 35 = .ok (.isub, 1) := by decide +kernel
theorem dX12_acrossOf_36 : decode cX12_acrossOf 36 = .ok (.iaload, 1) := by decide +kernel
theorem dX12_acrossOf_37 : decode cX12_acrossOf 37 = .ok (.istore 4, 2) := by decide +kernel
theorem dX12_acrossOf_39 : decode cX12_acrossOf 39 = .ok (.aload_n 0, 1) := by decide +kernel
theorem dX12_acrossOf_40 : decode cX12_acrossOf 40 = .ok (.getfield 20, 3) := by decide +kernel
theorem dX12_acrossOf_43 : decode cX12_acrossOf 43 = .ok (.iconst 5, 1) := by decide +kernel
theorem dX12_acrossOf_44 : decode cX12_acrossOf 44 = .ok (.iload_n 2, 1) := by decide +kernel
theorem dX12_acrossOf_45 : decode cX12_acrossOf 45 = .ok (.imul, 1) := by decide +kernel
theorem dX12_acrossOf_46 : decode cX12_acrossOf 46 = .ok (.iload_n 3, 1) := by decide +kernel
theorem dX12_acrossOf_47 : decode cX12_acrossOf 47 = .ok (.iadd, 1) := by decide +kernel
theorem dX12_acrossOf_48 : decode cX12_acrossOf 48 = .ok (.aload_n 0, 1) := by decide +kernel
theorem dX12_acrossOf_49 : decode cX12_acrossOf 49 = .ok (.getfield 29, 3) := by decide +kernel
theorem dX12_acrossOf_52 : decode cX12_acrossOf 52 = .ok (.iload_n 2, 1) := by decide +kernel
theorem dX12_acrossOf_53 : decode cX12_acrossOf 53 = .ok (.iaload, 1) := by decide +kernel
theorem dX12_acrossOf_54 : decode cX12_acrossOf 54 = .ok (.isub, 1) := by decide +kernel
theorem dX12_acrossOf_55 : decode cX12_acrossOf 55 = .ok (.iaload, 1) := by decide +kernel
theorem dX12_acrossOf_56 : decode cX12_acrossOf 56 = .ok (.istore 5, 2) := by decide +kernel
theorem dX12_acrossOf_58 : decode cX12_acrossOf 58 = .ok (.iload 4, 2) := by decide +kernel
theorem dX12_acrossOf_60 : decode cX12_acrossOf 60 = .ok (.ifCond .eq 8, 3) := by decide +kernel
theorem dX12_acrossOf_63 : decode cX12_acrossOf 63 = .ok (.iload 5, 2) := by decide +kernel
theorem dX12_acrossOf_65 : decode cX12_acrossOf 65 = .ok (.ifCond .ne 7, 3) := by decide +kernel
theorem dX12_acrossOf_68 : decode cX12_acrossOf 68 = .ok (.iconst 0, 1) := by decide +kernel
theorem dX12_acrossOf_69 : decode cX12_acrossOf 69 = .ok (.goto 15, 3) := by decide +kernel
theorem dX12_acrossOf_72 : decode cX12_acrossOf 72 = .ok (.iload 4, 2) := by decide +kernel
theorem dX12_acrossOf_74 : decode cX12_acrossOf 74 = .ok (.iload 5, 2) := by decide +kernel
theorem dX12_acrossOf_76 : decode cX12_acrossOf 76 = .ok (.if_icmp .ne 7, 3) := by decide +kernel
theorem dX12_acrossOf_79 : decode cX12_acrossOf 79 = .ok (.iconst 1, 1) := by decide +kernel
theorem dX12_acrossOf_80 : decode cX12_acrossOf 80 = .ok (.goto 4, 3) := by decide +kernel
theorem dX12_acrossOf_83 : decode cX12_acrossOf 83 = .ok (.iconst (-1), 1) := by decide +kernel
theorem dX12_acrossOf_84 : decode cX12_acrossOf 84 = .ok (.ireturn, 1) := by decide +kernel
theorem dX12_downOf_0 : decode cX12_downOf 0 = .ok (.aload_n 0, 1) := by decide +kernel
theorem dX12_downOf_1 : decode cX12_downOf 1 = .ok (.iload_n 1, 1) := by decide +kernel
theorem dX12_downOf_2 : decode cX12_downOf 2 = .ok (.iload_n 3, 1) := by decide +kernel
theorem dX12_downOf_3 : decode cX12_downOf 3 = .ok (.invokevirtual 97, 3) := by decide +kernel
theorem dX12_downOf_6 : decode cX12_downOf 6 = .ok (.ifCond .eq 12, 3) := by decide +kernel
theorem dX12_downOf_9 : decode cX12_downOf 9 = .ok (.aload_n 0, 1) := by decide +kernel
theorem dX12_downOf_10 : decode cX12_downOf 10 = .ok (.iload_n 2, 1) := by decide +kernel
theorem dX12_downOf_11 : decode cX12_downOf 11 = .ok (.iload_n 3, 1) := by decide +kernel
theorem dX12_downOf_12 : decode cX12_downOf 12 = .ok (.invokevirtual 97, 3) := by decide +kernel
theorem dX12_downOf_15 : decode cX12_downOf 15 = .ok (.ifCond .ne 5, 3) := by decide +kernel
theorem dX12_downOf_18 : decode cX12_downOf 18 = .ok (.iconst 0, 1) := by decide +kernel
theorem dX12_downOf_19 : decode cX12_downOf 19 = .ok (.ireturn, 1) := by decide +kernel
theorem dX12_downOf_20 : decode cX12_downOf 20 = .ok (.aload_n 0, 1) := by decide +kernel
theorem dX12_downOf_21 : decode cX12_downOf 21 = .ok (.getfield 23, 3) := by decide +kernel
theorem dX12_downOf_24 : decode cX12_downOf 24 = .ok (.bipush 10, 2) := by decide +kernel
theorem dX12_downOf_26 : decode cX12_downOf 26 = .ok (.iload_n 1, 1) := by decide +kernel
theorem dX12_downOf_27 : decode cX12_downOf 27 = .ok (.imul, 1) := by decide +kernel
theorem dX12_downOf_28 : decode cX12_downOf 28 = .ok (.iload_n 3, 1) := by decide +kernel
theorem dX12_downOf_29 : decode cX12_downOf 29 = .ok (.iadd, 1) := by decide +kernel
theorem dX12_downOf_30 : decode cX12_downOf 30 = .ok (.aload_n 0, 1) := by decide +kernel
theorem dX12_downOf_31 : decode cX12_downOf 31 = .ok (.getfield 32, 3) := by decide +kernel
theorem dX12_downOf_34 : decode cX12_downOf 34 = .ok (.iload_n 1, 1) := by decide +kernel
theorem dX12_downOf_35 : decode cX12_downOf 35 = .ok (.iaload, 1) := by decide +kernel
theorem dX12_downOf_36 : decode cX12_downOf 36 = .ok (.isub, 1) := by decide +kernel
theorem dX12_downOf_37 : decode cX12_downOf 37 = .ok (.iaload, 1) := by decide +kernel
theorem dX12_downOf_38 : decode cX12_downOf 38 = .ok (.istore 4, 2) := by decide +kernel
theorem dX12_downOf_40 : decode cX12_downOf 40 = .ok (.aload_n 0, 1) := by decide +kernel
theorem dX12_downOf_41 : decode cX12_downOf 41 = .ok (.getfield 23, 3) := by decide +kernel
theorem dX12_downOf_44 : decode cX12_downOf 44 = .ok (.bipush 10, 2) := by decide +kernel
theorem dX12_downOf_46 : decode cX12_downOf 46 = .ok (.iload_n 2, 1) := by decide +kernel
theorem dX12_downOf_47 : decode cX12_downOf 47 = .ok (.imul, 1) := by decide +kernel
theorem dX12_downOf_48 : decode cX12_downOf 48 = .ok (.iload_n 3, 1) := by decide +kernel
theorem dX12_downOf_49 : decode cX12_downOf 49 = .ok (.iadd, 1) := by decide +kernel
theorem dX12_downOf_50 : decode cX12_downOf 50 = .ok (.aload_n 0, 1) := by decide +kernel
theorem dX12_downOf_51 : decode cX12_downOf 51 = .ok (.getfield 32, 3) := by decide +kernel
theorem dX12_downOf_54 : decode cX12_downOf 54 = .ok (.iload_n 2, 1) := by decide +kernel
theorem dX12_downOf_55 : decode cX12_downOf 55 = .ok (.iaload, 1) := by decide +kernel
theorem dX12_downOf_56 : decode cX12_downOf 56 = .ok (.isub, 1) := by decide +kernel
theorem dX12_downOf_57 : decode cX12_downOf 57 = .ok (.iaload, 1) := by decide +kernel
theorem dX12_downOf_58 : decode cX12_downOf 58 = .ok (.istore 5, 2) := by decide +kernel
theorem dX12_downOf_60 : decode cX12_downOf 60 = .ok (.iload 4, 2) := by decide +kernel
theorem dX12_downOf_62 : decode cX12_downOf 62 = .ok (.ifCond .eq 8, 3) := by decide +kernel
theorem dX12_downOf_65 : decode cX12_downOf 65 = .ok (.iload 5, 2) := by decide +kernel
theorem dX12_downOf_67 : decode cX12_downOf 67 = .ok (.ifCond .ne 7, 3) := by decide +kernel
theorem dX12_downOf_70 : decode cX12_downOf 70 = .ok (.iconst 0, 1) := by decide +kernel
theorem dX12_downOf_71 : decode cX12_downOf 71 = .ok (.goto 15, 3) := by decide +kernel
theorem dX12_downOf_74 : decode cX12_downOf 74 = .ok (.iload 4, 2) := by decide +kernel
theorem dX12_downOf_76 : decode cX12_downOf 76 = .ok (.iload 5, 2) := by decide +kernel
theorem dX12_downOf_78 : decode cX12_downOf 78 = .ok (.if_icmp .ne 7, 3) := by decide +kernel
theorem dX12_downOf_81 : decode cX12_downOf 81 = .ok (.iconst 1, 1) := by decide +kernel
theorem dX12_downOf_82 : decode cX12_downOf 82 = .ok (.goto 4, 3) := by decide +kernel
theorem dX12_downOf_85 : decode cX12_downOf 85 = .ok (.iconst (-1), 1) := by decide +kernel
theorem dX12_downOf_86 : decode cX12_downOf 86 = .ok (.ireturn, 1) := by decide +kernel
theorem dX12_quarrel_0 : decode cX12_quarrel 0 = .ok (.iconst 0, 1) := by decide +kernel
theorem dX12_quarrel_1 : decode cX12_quarrel 1 = .ok (.istore_n 3, 1) := by decide +kernel
theorem dX12_quarrel_2 : decode cX12_quarrel 2 = .ok (.iload_n 3, 1) := by decide +kernel
theorem dX12_quarrel_3 : decode cX12_quarrel 3 = .ok (.bipush 16, 2) := by decide +kernel
theorem dX12_quarrel_5 : decode cX12_quarrel 5 = .ok (.if_icmp .ge 21, 3) := by decide +kernel
theorem dX12_quarrel_8 : decode cX12_quarrel 8 = .ok (.aload_n 0, 1) := by decide +kernel
theorem dX12_quarrel_9 : decode cX12_quarrel 9 = .ok (.iload_n 1, 1) := by decide +kernel
theorem dX12_quarrel_10 : decode cX12_quarrel 10 = .ok (.iload_n 2, 1) := by decide +kernel
theorem dX12_quarrel_11 : decode cX12_quarrel 11 = .ok (.iload_n 3, 1) := by decide +kernel
theorem dX12_quarrel_12 : decode cX12_quarrel 12 = .ok (.invokevirtual 100, 3) := by decide +kernel
theorem dX12_quarrel_15 : decode cX12_quarrel 15 = .ok (.ifCond .ge 5, 3) := by decide +kernel
theorem dX12_quarrel_18 : decode cX12_quarrel 18 = .ok (.iconst 1, 1) := by decide +kernel
theorem dX12_quarrel_19 : decode cX12_quarrel 19 = .ok (.ireturn, 1) := by decide +kernel
theorem dX12_quarrel_20 : decode cX12_quarrel 20 = .ok (.iinc 3 1, 3) := by decide +kernel
theorem dX12_quarrel_23 : decode cX12_quarrel 23 = .ok (.goto (-21), 3) := by decide +kernel
theorem dX12_quarrel_26 : decode cX12_quarrel 26 = .ok (.iconst 0, 1) := by decide +kernel
theorem dX12_quarrel_27 : decode cX12_quarrel 27 = .ok (.istore_n 3, 1) := by decide +kernel
theorem dX12_quarrel_28 : decode cX12_quarrel 28 = .ok (.iload_n 3, 1) := by decide +kernel
theorem dX12_quarrel_29 : decode cX12_quarrel 29 = .ok (.bipush 32, 2) := by decide +kernel
theorem dX12_quarrel_31 : decode cX12_quarrel 31 = .ok (.if_icmp .ge 21, 3) := by decide +kernel
theorem dX12_quarrel_34 : decode cX12_quarrel 34 = .ok (.aload_n 0, 1) := by decide +kernel
theorem dX12_quarrel_35 : decode cX12_quarrel 35 = .ok (.iload_n 1, 1) := by decide +kernel
theorem dX12_quarrel_36 : decode cX12_quarrel 36 = .ok (.iload_n 2, 1) := by decide +kernel
theorem dX12_quarrel_37 : decode cX12_quarrel 37 = .ok (.iload_n 3, 1) := by decide +kernel
theorem dX12_quarrel_38 : decode cX12_quarrel 38 = .ok (.invokevirtual 103, 3) := by decide +kernel
theorem dX12_quarrel_41 : decode cX12_quarrel 41 = .ok (.ifCond .ge 5, 3) := by decide +kernel
theorem dX12_quarrel_44 : decode cX12_quarrel 44 = .ok (.iconst 1, 1) := by decide +kernel
theorem dX12_quarrel_45 : decode cX12_quarrel 45 = .ok (.ireturn, 1) := by decide +kernel
theorem dX12_quarrel_46 : decode cX12_quarrel 46 = .ok (.iinc 3 1, 3) := by decide +kernel
theorem dX12_quarrel_49 : decode cX12_quarrel 49 = .ok (.goto (-21), 3) := by decide +kernel
theorem dX12_quarrel_52 : decode cX12_quarrel 52 = .ok (.iconst 0, 1) := by decide +kernel
theorem dX12_quarrel_53 : decode cX12_quarrel 53 = .ok (.ireturn, 1) := by decide +kernel
theorem dX12_isInk_0 : decode cX12_isInk 0 = .ok (.aload_n 0, 1) := by decide +kernel
theorem dX12_isInk_1 : decode cX12_isInk 1 = .ok (.getfield 50, 3) := by decide +kernel
theorem dX12_isInk_4 : decode cX12_isInk 4 = .ok (.iload_n 1, 1) := by decide +kernel
theorem dX12_isInk_5 : decode cX12_isInk 5 = .ok (.iaload, 1) := by decide +kernel
theorem dX12_isInk_6 : decode cX12_isInk 6 = .ok (.invokestatic 73, 3) := by decide +kernel
theorem dX12_isInk_9 : decode cX12_isInk 9 = .ok (.ifCond .ne 14, 3) := by decide +kernel
theorem dX12_isInk_12 : decode cX12_isInk 12 = .ok (.aload_n 0, 1) := by decide +kernel
theorem dX12_isInk_13 : decode cX12_isInk 13 = .ok (.getfield 50, 3) := by decide +kernel
theorem dX12_isInk_16 : decode cX12_isInk 16 = .ok (.iload_n 1, 1) := by decide +kernel
theorem dX12_isInk_17 : decode cX12_isInk 17 = .ok (.iaload, 1) := by decide +kernel
theorem dX12_isInk_18 : decode cX12_isInk 18 = .ok (.bipush 46, 2) := by decide +kernel
theorem dX12_isInk_20 : decode cX12_isInk 20 = .ok (.if_icmp .ne 7, 3) := by decide +kernel
theorem dX12_isInk_23 : decode cX12_isInk 23 = .ok (.iconst 1, 1) := by decide +kernel
theorem dX12_isInk_24 : decode cX12_isInk 24 = .ok (.goto 4, 3) := by decide +kernel
theorem dX12_isInk_27 : decode cX12_isInk 27 = .ok (.iconst 0, 1) := by decide +kernel
theorem dX12_isInk_28 : decode cX12_isInk 28 = .ok (.ireturn, 1) := by decide +kernel
theorem dX12_runAt_0 : decode cX12_runAt 0 = .ok (.iload_n 2, 1) := by decide +kernel
theorem dX12_runAt_1 : decode cX12_runAt 1 = .ok (.istore_n 3, 1) := by decide +kernel
theorem dX12_runAt_2 : decode cX12_runAt 2 = .ok (.iload_n 3, 1) := by decide +kernel
theorem dX12_runAt_3 : decode cX12_runAt 3 = .ok (.ifCond .le 24, 3) := by decide +kernel
theorem dX12_runAt_6 : decode cX12_runAt 6 = .ok (.aload_n 0, 1) := by decide +kernel
theorem dX12_runAt_7 : decode cX12_runAt 7 = .ok (.bipush 32, 2) := by decide +kernel
theorem dX12_runAt_9 : decode cX12_runAt 9 = .ok (.iload_n 1, 1) := by decide +kernel
theorem dX12_runAt_10 : decode cX12_runAt 10 = .ok (.imul, 1) := by decide +kernel
theorem dX12_runAt_11 : decode cX12_runAt 11 = .ok (.iload_n 3, 1) := by decide +kernel
theorem dX12_runAt_12 : decode cX12_runAt 12 = .ok (.iadd, 1) := by decide +kernel
theorem dX12_runAt_13 : decode cX12_runAt 13 = .ok (.iconst 1, 1) := by decide +kernel
theorem dX12_runAt_14 : decode cX12_runAt 14 = .ok (.isub, 1) := by decide +kernel
theorem dX12_runAt_15 : decode cX12_runAt 15 = .ok (.invokevirtual 106, 3) := by decide +kernel
theorem dX12_runAt_18 : decode cX12_runAt 18 = .ok (.ifCond .eq 9, 3) := by decide +kernel
theorem dX12_runAt_21 : decode cX12_runAt 21 = .ok (.iinc 3 (-1), 3) := by decide +kernel
theorem dX12_runAt_24 : decode cX12_runAt 24 = .ok (.goto (-22), 3) := by decide +kernel
theorem dX12_runAt_27 : decode cX12_runAt 27 = .ok (.iload_n 2, 1) := by decide +kernel
theorem dX12_runAt_28 : decode cX12_runAt 28 = .ok (.iconst 1, 1) := by decide +kernel
theorem dX12_runAt_29 : decode cX12_runAt 29 = .ok (.iadd, 1) := by decide +kernel
theorem dX12_runAt_30 : decode cX12_runAt 30 = .ok (.istore 4, 2) := by decide +kernel
theorem dX12_runAt_32 : decode cX12_runAt 32 = .ok (.iload 4, 2) := by decide +kernel
theorem dX12_runAt_34 : decode cX12_runAt 34 = .ok (.bipush 32, 2) := by decide +kernel
theorem dX12_runAt_36 : decode cX12_runAt 36 = .ok (.if_icmp .ge 23, 3) := by decide +kernel
theorem dX12_runAt_39 : decode cX12_runAt 39 = .ok (.aload_n 0, 1) := by decide +kernel
theorem dX12_runAt_40 : decode cX12_runAt 40 = .ok (.bipush 32, 2) := by decide +kernel
theorem dX12_runAt_42 : decode cX12_runAt 42 = .ok (.iload_n 1, 1) := by decide +kernel
theorem dX12_runAt_43 : decode cX12_runAt 43 = .ok (.imul, 1) := by decide +kernel
theorem dX12_runAt_44 : decode cX12_runAt 44 = .ok (.iload 4, 2) := by decide +kernel
theorem dX12_runAt_46 : decode cX12_runAt 46 = .ok (.iadd, 1) := by decide +kernel
theorem dX12_runAt_47 : decode cX12_runAt 47 = .ok (.invokevirtual 106, 3) := by decide +kernel
theorem dX12_runAt_50 : decode cX12_runAt 50 = .ok (.ifCond .eq 9, 3) := by decide +kernel
theorem dX12_runAt_53 : decode cX12_runAt 53 = .ok (.iinc 4 1, 3) := by decide +kernel
theorem dX12_runAt_56 : decode cX12_runAt 56 = .ok (.goto (-24), 3) := by decide +kernel
theorem dX12_runAt_59 : decode cX12_runAt 59 = .ok (.aload_n 0, 1) := by decide +kernel
theorem dX12_runAt_60 : decode cX12_runAt 60 = .ok (.iload_n 3, 1) := by decide +kernel
theorem dX12_runAt_61 : decode cX12_runAt 61 = .ok (.ifCond .le 25, 3) := by decide +kernel
theorem dX12_runAt_64 : decode cX12_runAt 64 = .ok (.aload_n 0, 1) := by decide +kernel
theorem dX12_runAt_65 : decode cX12_runAt 65 = .ok (.getfield 50, 3) := by decide +kernel
theorem dX12_runAt_68 : decode cX12_runAt 68 = .ok (.bipush 32, 2) := by decide +kernel
theorem dX12_runAt_70 : decode cX12_runAt 70 = .ok (.iload_n 1, 1) := by decide +kernel
theorem dX12_runAt_71 : decode cX12_runAt 71 = .ok (.imul, 1) := by decide +kernel
theorem dX12_runAt_72 : decode cX12_runAt 72 = .ok (.iload_n 3, 1) := by decide +kernel
theorem dX12_runAt_73 : decode cX12_runAt 73 = .ok (.iadd, 1) := by decide +kernel
theorem dX12_runAt_74 : decode cX12_runAt 74 = .ok (.iconst 1, 1) := by decide +kernel
theorem dX12_runAt_75 : decode cX12_runAt 75 = .ok (.isub, 1) := by decide +kernel
theorem dX12_runAt_76 : decode cX12_runAt 76 = .ok (.iaload, 1) := by decide +kernel
theorem dX12_runAt_77 : decode cX12_runAt 77 = .ok (.bipush 44, 2) := by decide +kernel
theorem dX12_runAt_79 : decode cX12_runAt 79 = .ok (.if_icmp .ne 7, 3) := by decide +kernel
theorem dX12_runAt_82 : decode cX12_runAt 82 = .ok (.iconst 1, 1) := by decide +kernel
theorem dX12_runAt_83 : decode cX12_runAt 83 = .ok (.goto 4, 3) := by decide +kernel
theorem dX12_runAt_86 : decode cX12_runAt 86 = .ok (.iconst 0, 1) := by decide +kernel
theorem dX12_runAt_87 : decode cX12_runAt 87 = .ok (.putfield 109, 3) := by decide +kernel
theorem dX12_runAt_90 : decode cX12_runAt 90 = .ok (.aload_n 0, 1) := by decide +kernel
theorem dX12_runAt_91 : decode cX12_runAt 91 = .ok (.iload 4, 2) := by decide +kernel
theorem dX12_runAt_93 : decode cX12_runAt 93 = .ok (.bipush 32, 2) := by decide +kernel
theorem dX12_runAt_95 : decode cX12_runAt 95 = .ok (.if_icmp .ge 24, 3) := by decide +kernel
theorem dX12_runAt_98 : decode cX12_runAt 98 = .ok (.aload_n 0, 1) := by decide +kernel
theorem dX12_runAt_99 : decode cX12_runAt 99 = .ok (.getfield 50, 3) := by decide +kernel
theorem dX12_runAt_102 : decode cX12_runAt 102 = .ok (.bipush 32, 2) := by decide +kernel
theorem dX12_runAt_104 : decode cX12_runAt 104 = .ok (.iload_n 1, 1) := by decide +kernel
theorem dX12_runAt_105 : decode cX12_runAt 105 = .ok (.imul, 1) := by decide +kernel
theorem dX12_runAt_106 : decode cX12_runAt 106 = .ok (.iload 4, 2) := by decide +kernel
theorem dX12_runAt_108 : decode cX12_runAt 108 = .ok (.iadd, 1) := by decide +kernel
theorem dX12_runAt_109 : decode cX12_runAt 109 = .ok (.iaload, 1) := by decide +kernel
theorem dX12_runAt_110 : decode cX12_runAt 110 = .ok (.bipush 44, 2) := by decide +kernel
theorem dX12_runAt_112 : decode cX12_runAt 112 = .ok (.if_icmp .ne 7, 3) := by decide +kernel
theorem dX12_runAt_115 : decode cX12_runAt 115 = .ok (.iconst 1, 1) := by decide +kernel
theorem dX12_runAt_116 : decode cX12_runAt 116 = .ok (.goto 4, 3) := by decide +kernel
theorem dX12_runAt_119 : decode cX12_runAt 119 = .ok (.iconst 0, 1) := by decide +kernel
theorem dX12_runAt_120 : decode cX12_runAt 120 = .ok (.putfield 113, 3) := by decide +kernel
theorem dX12_runAt_123 : decode cX12_runAt 123 = .ok (.aload_n 0, 1) := by decide +kernel
theorem dX12_runAt_124 : decode cX12_runAt 124 = .ok (.bipush 32, 2) := by decide +kernel
theorem dX12_runAt_126 : decode cX12_runAt 126 = .ok (.iload_n 1, 1) := by decide +kernel
theorem dX12_runAt_127 : decode cX12_runAt 127 = .ok (.imul, 1) := by decide +kernel
theorem dX12_runAt_128 : decode cX12_runAt 128 = .ok (.iload_n 3, 1) := by decide +kernel
theorem dX12_runAt_129 : decode cX12_runAt 129 = .ok (.iadd, 1) := by decide +kernel
theorem dX12_runAt_130 : decode cX12_runAt 130 = .ok (.putfield 116, 3) := by decide +kernel
theorem dX12_runAt_133 : decode cX12_runAt 133 = .ok (.aload_n 0, 1) := by decide +kernel
theorem dX12_runAt_134 : decode cX12_runAt 134 = .ok (.bipush 32, 2) := by decide +kernel
theorem dX12_runAt_136 : decode cX12_runAt 136 = .ok (.iload_n 1, 1) := by decide +kernel
theorem dX12_runAt_137 : decode cX12_runAt 137 = .ok (.imul, 1) := by decide +kernel
theorem dX12_runAt_138 : decode cX12_runAt 138 = .ok (.iload 4, 2) := by decide +kernel
theorem dX12_runAt_140 : decode cX12_runAt 140 = .ok (.iadd, 1) := by decide +kernel
theorem dX12_runAt_141 : decode cX12_runAt 141 = .ok (.putfield 119, 3) := by decide +kernel
theorem dX12_runAt_144 : decode cX12_runAt 144 = .ok (.return_, 1) := by decide +kernel
theorem dX12_isFrom_0 : decode cX12_isFrom 0 = .ok (.aload_n 0, 1) := by decide +kernel
theorem dX12_isFrom_1 : decode cX12_isFrom 1 = .ok (.getfield 116, 3) := by decide +kernel
theorem dX12_isFrom_4 : decode cX12_isFrom 4 = .ok (.istore_n 3, 1) := by decide +kernel
theorem dX12_isFrom_5 : decode cX12_isFrom 5 = .ok (.iload_n 3, 1) := by decide +kernel
theorem dX12_isFrom_6 : decode cX12_isFrom 6 = .ok (.aload_n 0, 1) := by decide +kernel
theorem dX12_isFrom_7 : decode cX12_isFrom 7 = .ok (.getfield 119, 3) := by decide +kernel
theorem dX12_isFrom_10 : decode cX12_isFrom 10 = .ok (.if_icmp .ge 49, 3) := by decide +kernel
theorem dX12_isFrom_13 : decode cX12_isFrom 13 = .ok (.aload_n 0, 1) := by decide +kernel
theorem dX12_isFrom_14 : decode cX12_isFrom 14 = .ok (.getfield 50, 3) := by decide +kernel
theorem dX12_isFrom_17 : decode cX12_isFrom 17 = .ok (.iload_n 3, 1) := by decide +kernel
theorem dX12_isFrom_18 : decode cX12_isFrom 18 = .ok (.iaload, 1) := by decide +kernel
theorem dX12_isFrom_19 : decode cX12_isFrom 19 = .ok (.bipush 46, 2) := by decide +kernel
theorem dX12_isFrom_21 : decode cX12_isFrom 21 = .ok (.if_icmp .eq 32, 3) := by decide +kernel
theorem dX12_isFrom_24 : decode cX12_isFrom 24 = .ok (.aload_n 0, 1) := by decide +kernel
theorem dX12_isFrom_25 : decode cX12_isFrom 25 = .ok (.getfield 50, 3) := by decide +kernel
theorem dX12_isFrom_28 : decode cX12_isFrom 28 = .ok (.iload_n 3, 1) := by decide +kernel
theorem dX12_isFrom_29 : decode cX12_isFrom 29 = .ok (.iaload, 1) := by decide +kernel
theorem dX12_isFrom_30 : decode cX12_isFrom 30 = .ok (.aload_n 0, 1) := by decide +kernel
theorem dX12_isFrom_31 : decode cX12_isFrom 31 = .ok (.getfield 47, 3) := by decide +kernel
theorem dX12_isFrom_34 : decode cX12_isFrom 34 = .ok (.bipush 10, 2) := by decide +kernel
theorem dX12_isFrom_36 : decode cX12_isFrom 36 = .ok (.iload_n 1, 1) := by decide +kernel
theorem dX12_isFrom_37 : decode cX12_isFrom 37 = .ok (.imul, 1) := by decide +kernel
theorem dX12_isFrom_38 : decode cX12_isFrom 38 = .ok (.iload_n 2, 1) := by decide +kernel
theorem dX12_isFrom_39 : decode cX12_isFrom 39 = .ok (.iadd, 1) := by decide +kernel
theorem dX12_isFrom_40 : decode cX12_isFrom 40 = .ok (.iload_n 3, 1) := by decide +kernel
theorem dX12_isFrom_41 : decode cX12_isFrom 41 = .ok (.iadd, 1) := by decide +kernel
theorem dX12_isFrom_42 : decode cX12_isFrom 42 = .ok (.aload_n 0, 1) := by decide +kernel
theorem dX12_isFrom_43 : decode cX12_isFrom 43 = .ok (.getfield 116, 3) := by decide +kernel
theorem dX12_isFrom_46 : decode cX12_isFrom 46 = .ok (.isub, 1) := by decide +kernel
theorem dX12_isFrom_47 : decode cX12_isFrom 47 = .ok (.iaload, 1) := by decide +kernel
theorem dX12_isFrom_48 : decode cX12_isFrom 48 = .ok (.if_icmp .eq 5, 3) := by decide +kernel
theorem dX12_isFrom_51 : decode cX12_isFrom 51 = .ok (.iconst 0, 1) := by decide +kernel
theorem dX12_isFrom_52 : decode cX12_isFrom 52 = .ok (.ireturn, 1) := by decide +kernel
theorem dX12_isFrom_53 : decode cX12_isFrom 53 = .ok (.iinc 3 1, 3) := by decide +kernel
theorem dX12_isFrom_56 : decode cX12_isFrom 56 = .ok (.goto (-51), 3) := by decide +kernel
theorem dX12_isFrom_59 : decode cX12_isFrom 59 = .ok (.iconst 1, 1) := by decide +kernel
theorem dX12_isFrom_60 : decode cX12_isFrom 60 = .ok (.ireturn, 1) := by decide +kernel
theorem dX12_canBe_0 : decode cX12_canBe 0 = .ok (.aload_n 0, 1) := by decide +kernel
theorem dX12_canBe_1 : decode cX12_canBe 1 = .ok (.getfield 119, 3) := by decide +kernel
theorem dX12_canBe_4 : decode cX12_canBe 4 = .ok (.aload_n 0, 1) := by decide +kernel
theorem dX12_canBe_5 : decode cX12_canBe 5 = .ok (.getfield 116, 3) := by decide +kernel
theorem dX12_canBe_8 : decode cX12_canBe 8 = .ok (.isub, 1) := by decide +kernel
theorem dX12_canBe_9 : decode cX12_canBe 9 = .ok (.istore_n 2, 1) := by decide +kernel
theorem dX12_canBe_10 : decode cX12_canBe 10 = .ok (.iconst 0, 1) := by decide +kernel
theorem dX12_canBe_11 : decode cX12_canBe 11 = .ok (.istore_n 3, 1) := by decide +kernel
theorem dX12_canBe_12 : decode cX12_canBe 12 = .ok (.iload_n 3, 1) := by decide +kernel
theorem dX12_canBe_13 : decode cX12_canBe 13 = .ok (.iload_n 2, 1) := by decide +kernel
theorem dX12_canBe_14 : decode cX12_canBe 14 = .ok (.iadd, 1) := by decide +kernel
theorem dX12_canBe_15 : decode cX12_canBe 15 = .ok (.aload_n 0, 1) := by decide +kernel
theorem dX12_canBe_16 : decode cX12_canBe 16 = .ok (.getfield 44, 3) := by decide +kernel
theorem dX12_canBe_19 : decode cX12_canBe 19 = .ok (.iload_n 1, 1) := by decide +kernel
theorem dX12_canBe_20 : decode cX12_canBe 20 = .ok (.iaload, 1) := by decide +kernel
theorem dX12_canBe_21 : decode cX12_canBe 21 = .ok (.if_icmp .gt 53, 3) := by decide +kernel
theorem dX12_canBe_24 : decode cX12_canBe 24 = .ok (.aload_n 0, 1) := by decide +kernel
theorem dX12_canBe_25 : decode cX12_canBe 25 = .ok (.getfield 109, 3) := by decide +kernel
theorem dX12_canBe_28 : decode cX12_canBe 28 = .ok (.ifCond .eq 7, 3) := by decide +kernel
theorem dX12_canBe_31 : decode cX12_canBe 31 = .ok (.iload_n 3, 1) := by decide +kernel
theorem dX12_canBe_32 : decode cX12_canBe 32 = .ok (.ifCond .gt 36, 3) := by decide +kernel
theorem dX12_canBe_35 : decode cX12_canBe 35 = .ok (.aload_n 0, 1) := by decide +kernel
theorem dX12_canBe_36 : decode cX12_canBe 36 = .ok (.getfield 113, 3) := by decide +kernel
theorem dX12_canBe_39 : decode cX12_canBe 39 = .ok (.ifCond .eq 18, 3) := by decide +kernel
theorem dX12_canBe_42 : decode cX12_canBe 42 = .ok (.iload_n 3, 1) := by decide +kernel
theorem dX12_canBe_43 : decode cX12_canBe 43 = .ok (.iload_n 2, 1) := by decide +kernel
theorem dX12_canBe_44 : decode cX12_canBe 44 = .ok (.iadd, 1) := by decide +kernel
theorem dX12_canBe_45 : decode cX12_canBe 45 = .ok (.aload_n 0, 1) := by decide +kernel
theorem dX12_canBe_46 : decode cX12_canBe 46 = .ok (.getfield 44, 3) := by decide +kernel
theorem dX12_canBe_49 : decode cX12_canBe 49 = .ok (.iload_n 1, 1) := by decide +kernel
theorem dX12_canBe_50 : decode cX12_canBe 50 = .ok (.iaload, 1) := by decide +kernel
theorem dX12_canBe_51 : decode cX12_canBe 51 = .ok (.if_icmp .ge 6, 3) := by decide +kernel
theorem dX12_canBe_54 : decode cX12_canBe 54 = .ok (.goto 14, 3) := by decide +kernel
theorem dX12_canBe_57 : decode cX12_canBe 57 = .ok (.aload_n 0, 1) := by decide +kernel
theorem dX12_canBe_58 : decode cX12_canBe 58 = .ok (.iload_n 1, 1) := by decide +kernel
theorem dX12_canBe_59 : decode cX12_canBe 59 = .ok (.iload_n 3, 1) := by decide +kernel
theorem dX12_canBe_60 : decode cX12_canBe 60 = .ok (.invokevirtual 122, 3) := by decide +kernel
theorem dX12_canBe_63 : decode cX12_canBe 63 = .ok (.ifCond .eq 5, 3) := by decide +kernel
theorem dX12_canBe_66 : decode cX12_canBe 66 = .ok (.iconst 1, 1) := by decide +kernel
theorem dX12_canBe_67 : decode cX12_canBe 67 = .ok (.ireturn, 1) := by decide +kernel
theorem dX12_canBe_68 : decode cX12_canBe 68 = .ok (.iinc 3 1, 3) := by decide +kernel
theorem dX12_canBe_71 : decode cX12_canBe 71 = .ok (.goto (-59), 3) := by decide +kernel
theorem dX12_canBe_74 : decode cX12_canBe 74 = .ok (.iconst 0, 1) := by decide +kernel
theorem dX12_canBe_75 : decode cX12_canBe 75 = .ok (.ireturn, 1) := by decide +kernel
theorem dX12_canAny_0 : decode cX12_canAny 0 = .ok (.iconst 0, 1) := by decide +kernel
theorem dX12_canAny_1 : decode cX12_canAny 1 = .ok (.istore_n 1, 1) := by decide +kernel
theorem dX12_canAny_2 : decode cX12_canAny 2 = .ok (.iload_n 1, 1) := by decide +kernel
theorem dX12_canAny_3 : decode cX12_canAny 3 = .ok (.aload_n 0, 1) := by decide +kernel
theorem dX12_canAny_4 : decode cX12_canAny 4 = .ok (.getfield 83, 3) := by decide +kernel
theorem dX12_canAny_7 : decode cX12_canAny 7 = .ok (.if_icmp .ge 19, 3) := by decide +kernel
theorem dX12_canAny_10 : decode cX12_canAny 10 = .ok (.aload_n 0, 1) := by decide +kernel
theorem dX12_canAny_11 : decode cX12_canAny 11 = .ok (.iload_n 1, 1) := by decide +kernel
theorem dX12_canAny_12 : decode cX12_canAny 12 = .ok (.invokevirtual 125, 3) := by decide +kernel
theorem dX12_canAny_15 : decode cX12_canAny 15 = .ok (.ifCond .eq 5, 3) := by decide +kernel
theorem dX12_canAny_18 : decode cX12_canAny 18 = .ok (.iconst 1, 1) := by decide +kernel
theorem dX12_canAny_19 : decode cX12_canAny 19 = .ok (.ireturn, 1) := by decide +kernel
theorem dX12_canAny_20 : decode cX12_canAny 20 = .ok (.iinc 1 1, 3) := by decide +kernel
theorem dX12_canAny_23 : decode cX12_canAny 23 = .ok (.goto (-21), 3) := by decide +kernel
theorem dX12_canAny_26 : decode cX12_canAny 26 = .ok (.aload_n 0, 1) := by decide +kernel
theorem dX12_canAny_27 : decode cX12_canAny 27 = .ok (.getfield 83, 3) := by decide +kernel
theorem dX12_canAny_30 : decode cX12_canAny 30 = .ok (.ifCond .ne 7, 3) := by decide +kernel
theorem dX12_canAny_33 : decode cX12_canAny 33 = .ok (.iconst 1, 1) := by decide +kernel
theorem dX12_canAny_34 : decode cX12_canAny 34 = .ok (.goto 4, 3) := by decide +kernel
theorem dX12_canAny_37 : decode cX12_canAny 37 = .ok (.iconst 0, 1) := by decide +kernel
theorem dX12_canAny_38 : decode cX12_canAny 38 = .ok (.ireturn, 1) := by decide +kernel
theorem dX12_runsCan_0 : decode cX12_runsCan 0 = .ok (.aload_n 0, 1) := by decide +kernel
theorem dX12_runsCan_1 : decode cX12_runsCan 1 = .ok (.getfield 83, 3) := by decide +kernel
theorem dX12_runsCan_4 : decode cX12_runsCan 4 = .ok (.ifCond .ne 5, 3) := by decide +kernel
theorem dX12_runsCan_7 : decode cX12_runsCan 7 = .ok (.iconst 1, 1) := by decide +kernel
theorem dX12_runsCan_8 : decode cX12_runsCan 8 = .ok (.ireturn, 1) := by decide +kernel
theorem dX12_runsCan_9 : decode cX12_runsCan 9 = .ok (.iconst 0, 1) := by decide +kernel
theorem dX12_runsCan_10 : decode cX12_runsCan 10 = .ok (.istore_n 1, 1) := by decide +kernel
theorem dX12_runsCan_11 : decode cX12_runsCan 11 = .ok (.iload_n 1, 1) := by decide +kernel
theorem dX12_runsCan_12 : decode cX12_runsCan 12 = .ok (.bipush 16, 2) := by decide +kernel
theorem dX12_runsCan_14 : decode cX12_runsCan 14 = .ok (.if_icmp .ge 73, 3) := by decide +kernel
theorem dX12_runsCan_17 : decode cX12_runsCan 17 = .ok (.iconst 0, 1) := by decide +kernel
theorem dX12_runsCan_18 : decode cX12_runsCan 18 = .ok (.istore_n 2, 1) := by decide +kernel
theorem dX12_runsCan_19 : decode cX12_runsCan 19 = .ok (.iload_n 2, 1) := by decide +kernel
theorem dX12_runsCan_20 : decode cX12_runsCan 20 = .ok (.bipush 32, 2) := by decide +kernel
theorem dX12_runsCan_22 : decode cX12_runsCan 22 = .ok (.if_icmp .ge 59, 3) := by decide +kernel
theorem dX12_runsCan_25 : decode cX12_runsCan 25 = .ok (.aload_n 0, 1) := by decide +kernel
theorem dX12_runsCan_26 : decode cX12_runsCan 26 = .ok (.bipush 32, 2) := by decide +kernel
theorem dX12_runsCan_28 : decode cX12_runsCan 28 = .ok (.iload_n 1, 1) := by decide +kernel
theorem dX12_runsCan_29 : decode cX12_runsCan 29 = .ok (.imul, 1) := by decide +kernel
theorem dX12_runsCan_30 : decode cX12_runsCan 30 = .ok (.iload_n 2, 1) := by decide +kernel
theorem dX12_runsCan_31 : decode cX12_runsCan 31 = .ok (.iadd, 1) := by decide +kernel
theorem dX12_runsCan_32 : decode cX12_runsCan 32 = .ok (.invokevirtual 106, 3) := by decide +kernel
theorem dX12_runsCan_35 : decode cX12_runsCan 35 = .ok (.ifCond .eq 40, 3) := by decide +kernel
theorem dX12_runsCan_38 : decode cX12_runsCan 38 = .ok (.iload_n 2, 1) := by decide +kernel
theorem dX12_runsCan_39 : decode cX12_runsCan 39 = .ok (.ifCond .le 21, 3) := by decide +kernel
theorem dX12_runsCan_42 : decode cX12_runsCan 42 = .ok (.aload_n 0, 1) := by decide +kernel
theorem dX12_runsCan_43 : decode cX12_runsCan 43 = .ok (.bipush 32, 2) := by decide +kernel
theorem dX12_runsCan_45 : decode cX12_runsCan 45 = .ok (.iload_n 1, 1) := by decide +kernel
theorem dX12_runsCan_46 : decode cX12_runsCan 46 = .ok (.imul, 1) := by decide +kernel
theorem dX12_runsCan_47 : decode cX12_runsCan 47 = .ok (.iload_n 2, 1) := by decide +kernel
theorem dX12_runsCan_48 : decode cX12_runsCan 48 = .ok (.iadd, 1) := by decide +kernel
theorem dX12_runsCan_49 : decode cX12_runsCan 49 = .ok (.iconst 1, 1) := by decide +kernel
theorem dX12_runsCan_50 : decode cX12_runsCan 50 = .ok (.isub, 1) := by decide +kernel
theorem dX12_runsCan_51 : decode cX12_runsCan 51 = .ok (.invokevirtual 106, 3) := by decide +kernel
theorem dX12_runsCan_54 : decode cX12_runsCan 54 = .ok (.ifCond .eq 6, 3) := by decide +kernel
theorem dX12_runsCan_57 : decode cX12_runsCan 57 = .ok (.goto 18, 3) := by decide +kernel
theorem dX12_runsCan_60 : decode cX12_runsCan 60 = .ok (.aload_n 0, 1) := by decide +kernel
theorem dX12_runsCan_61 : decode cX12_runsCan 61 = .ok (.iload_n 1, 1) := by decide +kernel
theorem dX12_runsCan_62 : decode cX12_runsCan 62 = .ok (.iload_n 2, 1) := by decide +kernel
theorem dX12_runsCan_63 : decode cX12_runsCan 63 = .ok (.invokevirtual 128, 3) := by decide +kernel
theorem dX12_runsCan_66 : decode cX12_runsCan 66 = .ok (.aload_n 0, 1) := by decide +kernel
theorem dX12_runsCan_67 : decode cX12_runsCan 67 = .ok (.invokevirtual 132, 3) := by decide +kernel
theorem dX12_runsCan_70 : decode cX12_runsCan 70 = .ok (.ifCond .ne 5, 3) := by decide +kernel
theorem dX12_runsCan_73 : decode cX12_runsCan 73 = .ok (.iconst 0, 1) := by decide +kernel
theorem dX12_runsCan_74 : decode cX12_runsCan 74 = .ok (.ireturn, 1) := by decide +kernel
theorem dX12_runsCan_75 : decode cX12_runsCan 75 = .ok (.iinc 2 1, 3) := by decide +kernel
theorem dX12_runsCan_78 : decode cX12_runsCan 78 = .ok (.goto (-59), 3) := by decide +kernel
theorem dX12_runsCan_81 : decode cX12_runsCan 81 = .ok (.iinc 1 1, 3) := by decide +kernel
theorem dX12_runsCan_84 : decode cX12_runsCan 84 = .ok (.goto (-73), 3) := by decide +kernel
theorem dX12_runsCan_87 : decode cX12_runsCan 87 = .ok (.iconst 1, 1) := by decide +kernel
theorem dX12_runsCan_88 : decode cX12_runsCan 88 = .ok (.ireturn, 1) := by decide +kernel
theorem dX12_mayLie_0 : decode cX12_mayLie 0 = .ok (.aload_n 0, 1) := by decide +kernel
theorem dX12_mayLie_1 : decode cX12_mayLie 1 = .ok (.invokevirtual 136, 3) := by decide +kernel
theorem dX12_mayLie_4 : decode cX12_mayLie 4 = .ok (.ifCond .ne 5, 3) := by decide +kernel
theorem dX12_mayLie_7 : decode cX12_mayLie 7 = .ok (.iconst 0, 1) := by decide +kernel
theorem dX12_mayLie_8 : decode cX12_mayLie 8 = .ok (.ireturn, 1) := by decide +kernel
theorem dX12_mayLie_9 : decode cX12_mayLie 9 = .ok (.iconst 0, 1) := by decide +kernel
theorem dX12_mayLie_10 : decode cX12_mayLie 10 = .ok (.istore_n 1, 1) := by decide +kernel
theorem dX12_mayLie_11 : decode cX12_mayLie 11 = .ok (.iload_n 1, 1) := by decide +kernel
theorem dX12_mayLie_12 : decode cX12_mayLie 12 = .ok (.bipush 10, 2) := by decide +kernel
theorem dX12_mayLie_14 : decode cX12_mayLie 14 = .ok (.if_icmp .ge 54, 3) := by decide +kernel
theorem dX12_mayLie_17 : decode cX12_mayLie 17 = .ok (.iload_n 1, 1) := by decide +kernel
theorem dX12_mayLie_18 : decode cX12_mayLie 18 = .ok (.iconst 1, 1) := by decide +kernel
theorem dX12_mayLie_19 : decode cX12_mayLie 19 = .ok (.iadd, 1) := by decide +kernel
theorem dX12_mayLie_20 : decode cX12_mayLie 20 = .ok (.istore_n 2, 1) := by decide +kernel
theorem dX12_mayLie_21 : decode cX12_mayLie 21 = .ok (.iload_n 2, 1) := by decide +kernel
theorem dX12_mayLie_22 : decode cX12_mayLie 22 = .ok (.bipush 10, 2) := by decide +kernel
theorem dX12_mayLie_24 : decode cX12_mayLie 24 = .ok (.if_icmp .ge 38, 3) := by decide +kernel
theorem dX12_mayLie_27 : decode cX12_mayLie 27 = .ok (.aload_n 0, 1) := by decide +kernel
theorem dX12_mayLie_28 : decode cX12_mayLie 28 = .ok (.getfield 26, 3) := by decide +kernel
theorem dX12_mayLie_31 : decode cX12_mayLie 31 = .ok (.iload_n 1, 1) := by decide +kernel
theorem dX12_mayLie_32 : decode cX12_mayLie 32 = .ok (.baload, 1) := by decide +kernel
theorem dX12_mayLie_33 : decode cX12_mayLie 33 = .ok (.ifCond .eq 23, 3) := by decide +kernel
theorem dX12_mayLie_36 : decode cX12_mayLie 36 = .ok (.aload_n 0, 1) := by decide +kernel
theorem dX12_mayLie_37 : decode cX12_mayLie 37 = .ok (.getfield 26, 3) := by decide +kernel
theorem dX12_mayLie_40 : decode cX12_mayLie 40 = .ok (.iload_n 2, 1) := by decide +kernel
theorem dX12_mayLie_41 : decode cX12_mayLie 41 = .ok (.baload, 1) := by decide +kernel
theorem dX12_mayLie_42 : decode cX12_mayLie 42 = .ok (.ifCond .eq 14, 3) := by decide +kernel
theorem dX12_mayLie_45 : decode cX12_mayLie 45 = .ok (.aload_n 0, 1) := by decide +kernel
theorem dX12_mayLie_46 : decode cX12_mayLie 46 = .ok (.iload_n 1, 1) := by decide +kernel
theorem dX12_mayLie_47 : decode cX12_mayLie 47 = .ok (.iload_n 2, 1) := by decide +kernel
theorem dX12_mayLie_48 : decode cX12_mayLie 48 = .ok (.invokevirtual 139, 3) := by decide +kernel
theorem dX12_mayLie_51 : decode cX12_mayLie 51 = .ok (.ifCond .eq 5, 3) := by decide +kernel
theorem dX12_mayLie_54 : decode cX12_mayLie 54 = .ok (.iconst 0, 1) := by decide +kernel
theorem dX12_mayLie_55 : decode cX12_mayLie 55 = .ok (.ireturn, 1) := by decide +kernel
theorem dX12_mayLie_56 : decode cX12_mayLie 56 = .ok (.iinc 2 1, 3) := by decide +kernel
theorem dX12_mayLie_59 : decode cX12_mayLie 59 = .ok (.goto (-38), 3) := by decide +kernel
theorem dX12_mayLie_62 : decode cX12_mayLie 62 = .ok (.iinc 1 1, 3) := by decide +kernel
theorem dX12_mayLie_65 : decode cX12_mayLie 65 = .ok (.goto (-54), 3) := by decide +kernel
theorem dX12_mayLie_68 : decode cX12_mayLie 68 = .ok (.aload_n 0, 1) := by decide +kernel
theorem dX12_mayLie_69 : decode cX12_mayLie 69 = .ok (.invokevirtual 142, 3) := by decide +kernel
theorem dX12_mayLie_72 : decode cX12_mayLie 72 = .ok (.ireturn, 1) := by decide +kernel
theorem dX12_puts_0 : decode cX12_puts 0 = .ok (.aload_n 0, 1) := by decide +kernel
theorem dX12_puts_1 : decode cX12_puts 1 = .ok (.getfield 26, 3) := by decide +kernel
theorem dX12_puts_4 : decode cX12_puts 4 = .ok (.iload_n 1, 1) := by decide +kernel
theorem dX12_puts_5 : decode cX12_puts 5 = .ok (.iconst 1, 1) := by decide +kernel
theorem dX12_puts_6 : decode cX12_puts 6 = .ok (.bastore, 1) := by decide +kernel
theorem dX12_puts_7 : decode cX12_puts 7 = .ok (.aload_n 0, 1) := by decide +kernel
theorem dX12_puts_8 : decode cX12_puts 8 = .ok (.getfield 29, 3) := by decide +kernel
theorem dX12_puts_11 : decode cX12_puts 11 = .ok (.iload_n 1, 1) := by decide +kernel
theorem dX12_puts_12 : decode cX12_puts 12 = .ok (.iload_n 2, 1) := by decide +kernel
theorem dX12_puts_13 : decode cX12_puts 13 = .ok (.iastore, 1) := by decide +kernel
theorem dX12_puts_14 : decode cX12_puts 14 = .ok (.aload_n 0, 1) := by decide +kernel
theorem dX12_puts_15 : decode cX12_puts 15 = .ok (.getfield 32, 3) := by decide +kernel
theorem dX12_puts_18 : decode cX12_puts 18 = .ok (.iload_n 1, 1) := by decide +kernel
theorem dX12_puts_19 : decode cX12_puts 19 = .ok (.iload_n 3, 1) := by decide +kernel
theorem dX12_puts_20 : decode cX12_puts 20 = .ok (.iastore, 1) := by decide +kernel
theorem dX12_puts_21 : decode cX12_puts 21 = .ok (.return_, 1) := by decide +kernel
theorem dX12_lay_0 : decode cX12_lay 0 = .ok (.aload_n 0, 1) := by decide +kernel
theorem dX12_lay_1 : decode cX12_lay 1 = .ok (.iload_n 1, 1) := by decide +kernel
theorem dX12_lay_2 : decode cX12_lay 2 = .ok (.invokevirtual 81, 3) := by decide +kernel
theorem dX12_lay_5 : decode cX12_lay 5 = .ok (.ifCond .eq 34, 3) := by decide +kernel
theorem dX12_lay_8 : decode cX12_lay 8 = .ok (.aload_n 0, 1) := by decide +kernel
theorem dX12_lay_9 : decode cX12_lay 9 = .ok (.getfield 26, 3) := by decide +kernel
theorem dX12_lay_12 : decode cX12_lay 12 = .ok (.iload_n 1, 1) := by decide +kernel
theorem dX12_lay_13 : decode cX12_lay 13 = .ok (.baload, 1) := by decide +kernel
theorem dX12_lay_14 : decode cX12_lay 14 = .ok (.ifCond .ne 25, 3) := by decide +kernel
theorem dX12_lay_17 : decode cX12_lay 17 = .ok (.iload_n 2, 1) := by decide +kernel
theorem dX12_lay_18 : decode cX12_lay 18 = .ok (.bipush (-4), 2) := by decide +kernel
theorem dX12_lay_20 : decode cX12_lay 20 = .ok (.bipush 15, 2) := by decide +kernel
theorem dX12_lay_22 : decode cX12_lay 22 = .ok (.invokestatic 69, 3) := by decide +kernel
theorem dX12_lay_25 : decode cX12_lay 25 = .ok (.ifCond .eq 14, 3) := by decide +kernel
theorem dX12_lay_28 : decode cX12_lay 28 = .ok (.iload_n 3, 1) := by decide +kernel
theorem dX12_lay_29 : decode cX12_lay 29 = .ok (.bipush (-9), 2) := by decide +kernel
theorem dX12_lay_31 : decode cX12_lay 31 = .ok (.bipush 31, 2) := by decide +kernel
theorem dX12_lay_33 : decode cX12_lay 33 = .ok (.invokestatic 69, 3) := by decide +kernel
theorem dX12_lay_36 : decode cX12_lay 36 = .ok (.ifCond .ne 5, 3) := by decide +kernel
theorem dX12_lay_39 : decode cX12_lay 39 = .ok (.iconst 0, 1) := by decide +kernel
theorem dX12_lay_40 : decode cX12_lay 40 = .ok (.ireturn, 1) := by decide +kernel
theorem dX12_lay_41 : decode cX12_lay 41 = .ok (.aload_n 0, 1) := by decide +kernel
theorem dX12_lay_42 : decode cX12_lay 42 = .ok (.iload_n 1, 1) := by decide +kernel
theorem dX12_lay_43 : decode cX12_lay 43 = .ok (.iload_n 2, 1) := by decide +kernel
theorem dX12_lay_44 : decode cX12_lay 44 = .ok (.iload_n 3, 1) := by decide +kernel
theorem dX12_lay_45 : decode cX12_lay 45 = .ok (.invokevirtual 145, 3) := by decide +kernel
theorem dX12_lay_48 : decode cX12_lay 48 = .ok (.aload_n 0, 1) := by decide +kernel
theorem dX12_lay_49 : decode cX12_lay 49 = .ok (.invokevirtual 149, 3) := by decide +kernel
theorem dX12_lay_52 : decode cX12_lay 52 = .ok (.ifCond .eq 5, 3) := by decide +kernel
theorem dX12_lay_55 : decode cX12_lay 55 = .ok (.iconst 1, 1) := by decide +kernel
theorem dX12_lay_56 : decode cX12_lay 56 = .ok (.ireturn, 1) := by decide +kernel
theorem dX12_lay_57 : decode cX12_lay 57 = .ok (.aload_n 0, 1) := by decide +kernel
theorem dX12_lay_58 : decode cX12_lay 58 = .ok (.getfield 26, 3) := by decide +kernel
theorem dX12_lay_61 : decode cX12_lay 61 = .ok (.iload_n 1, 1) := by decide +kernel
theorem dX12_lay_62 : decode cX12_lay 62 = .ok (.iconst 0, 1) := by decide +kernel
theorem dX12_lay_63 : decode cX12_lay 63 = .ok (.bastore, 1) := by decide +kernel
theorem dX12_lay_64 : decode cX12_lay 64 = .ok (.iconst 0, 1) := by decide +kernel
theorem dX12_lay_65 : decode cX12_lay 65 = .ok (.ireturn, 1) := by decide +kernel
theorem dX12_take_0 : decode cX12_take 0 = .ok (.aload_n 0, 1) := by decide +kernel
theorem dX12_take_1 : decode cX12_take 1 = .ok (.iload_n 1, 1) := by decide +kernel
theorem dX12_take_2 : decode cX12_take 2 = .ok (.invokevirtual 81, 3) := by decide +kernel
theorem dX12_take_5 : decode cX12_take 5 = .ok (.ifCond .eq 12, 3) := by decide +kernel
theorem dX12_take_8 : decode cX12_take 8 = .ok (.aload_n 0, 1) := by decide +kernel
theorem dX12_take_9 : decode cX12_take 9 = .ok (.getfield 26, 3) := by decide +kernel
theorem dX12_take_12 : decode cX12_take 12 = .ok (.iload_n 1, 1) := by decide +kernel
theorem dX12_take_13 : decode cX12_take 13 = .ok (.baload, 1) := by decide +kernel
theorem dX12_take_14 : decode cX12_take 14 = .ok (.ifCond .ne 5, 3) := by decide +kernel
theorem dX12_take_17 : decode cX12_take 17 = .ok (.iconst 0, 1) := by decide +kernel
theorem dX12_take_18 : decode cX12_take 18 = .ok (.ireturn, 1) := by decide +kernel
theorem dX12_take_19 : decode cX12_take 19 = .ok (.aload_n 0, 1) := by decide +kernel
theorem dX12_take_20 : decode cX12_take 20 = .ok (.getfield 26, 3) := by decide +kernel
theorem dX12_take_23 : decode cX12_take 23 = .ok (.iload_n 1, 1) := by decide +kernel
theorem dX12_take_24 : decode cX12_take 24 = .ok (.iconst 0, 1) := by decide +kernel
theorem dX12_take_25 : decode cX12_take 25 = .ok (.bastore, 1) := by decide +kernel
theorem dX12_take_26 : decode cX12_take 26 = .ok (.iconst 1, 1) := by decide +kernel
theorem dX12_take_27 : decode cX12_take 27 = .ok (.ireturn, 1) := by decide +kernel
theorem dX12_place_0 : decode cX12_place 0 = .ok (.aload_n 0, 1) := by decide +kernel
theorem dX12_place_1 : decode cX12_place 1 = .ok (.iload_n 1, 1) := by decide +kernel
theorem dX12_place_2 : decode cX12_place 2 = .ok (.invokevirtual 81, 3) := by decide +kernel
theorem dX12_place_5 : decode cX12_place 5 = .ok (.ifCond .eq 12, 3) := by decide +kernel
theorem dX12_place_8 : decode cX12_place 8 = .ok (.aload_n 0, 1) := by decide +kernel
theorem dX12_place_9 : decode cX12_place 9 = .ok (.getfield 26, 3) := by decide +kernel
theorem dX12_place_12 : decode cX12_place 12 = .ok (.iload_n 1, 1) := by decide +kernel
theorem dX12_place_13 : decode cX12_place 13 = .ok (.baload, 1) := by decide +kernel
theorem dX12_place_14 : decode cX12_place 14 = .ok (.ifCond .ne 5, 3) := by decide +kernel
theorem dX12_place_17 : decode cX12_place 17 = .ok (.iconst (-1), 1) := by decide +kernel
theorem dX12_place_18 : decode cX12_place 18 = .ok (.ireturn, 1) := by decide +kernel
theorem dX12_place_19 : decode cX12_place 19 = .ok (.iload_n 2, 1) := by decide +kernel
theorem dX12_place_20 : decode cX12_place 20 = .ok (.ifCond .ne 12, 3) := by decide +kernel
theorem dX12_place_23 : decode cX12_place 23 = .ok (.aload_n 0, 1) := by decide +kernel
theorem dX12_place_24 : decode cX12_place 24 = .ok (.getfield 29, 3) := by decide +kernel
theorem dX12_place_27 : decode cX12_place 27 = .ok (.iload_n 1, 1) := by decide +kernel
theorem dX12_place_28 : decode cX12_place 28 = .ok (.iaload, 1) := by decide +kernel
theorem dX12_place_29 : decode cX12_place 29 = .ok (.goto 18, 3) := by decide +kernel
theorem dX12_place_32 : decode cX12_place 32 = .ok (.iload_n 2, 1) := by decide +kernel
theorem dX12_place_33 : decode cX12_place 33 = .ok (.iconst 1, 1) := by decide +kernel
theorem dX12_place_34 : decode cX12_place 34 = .ok (.if_icmp .ne 12, 3) := by decide +kernel
theorem dX12_place_37 : decode cX12_place 37 = .ok (.aload_n 0, 1) := by decide +kernel
theorem dX12_place_38 : decode cX12_place 38 = .ok (.getfield 32, 3) := by decide +kernel
theorem dX12_place_41 : decode cX12_place 41 = .ok (.iload_n 1, 1) := by decide +kernel
theorem dX12_place_42 : decode cX12_place 42 = .ok (.iaload, 1) := by decide +kernel
theorem dX12_place_43 : decode cX12_place 43 = .ok (.goto 4, 3) := by decide +kernel
theorem dX12_place_46 : decode cX12_place 46 = .ok (.iconst (-1), 1) := by decide +kernel
theorem dX12_place_47 : decode cX12_place 47 = .ok (.ireturn, 1) := by decide +kernel
theorem dX12_isPlace_0 : decode cX12_isPlace 0 = .ok (.iload_n 0, 1) := by decide +kernel
theorem dX12_isPlace_1 : decode cX12_isPlace 1 = .ok (.iconst 0, 1) := by decide +kernel
theorem dX12_isPlace_2 : decode cX12_isPlace 2 = .ok (.bipush 15, 2) := by decide +kernel
theorem dX12_isPlace_4 : decode cX12_isPlace 4 = .ok (.invokestatic 69, 3) := by decide +kernel
theorem dX12_isPlace_7 : decode cX12_isPlace 7 = .ok (.ifCond .eq 17, 3) := by decide +kernel
theorem dX12_isPlace_10 : decode cX12_isPlace 10 = .ok (.iload_n 1, 1) := by decide +kernel
theorem dX12_isPlace_11 : decode cX12_isPlace 11 = .ok (.iconst 0, 1) := by decide +kernel
theorem dX12_isPlace_12 : decode cX12_isPlace 12 = .ok (.bipush 31, 2) := by decide +kernel
theorem dX12_isPlace_14 : decode cX12_isPlace 14 = .ok (.invokestatic 69, 3) := by decide +kernel
theorem dX12_isPlace_17 : decode cX12_isPlace 17 = .ok (.ifCond .eq 7, 3) := by decide +kernel
theorem dX12_isPlace_20 : decode cX12_isPlace 20 = .ok (.iconst 1, 1) := by decide +kernel
theorem dX12_isPlace_21 : decode cX12_isPlace 21 = .ok (.goto 4, 3) := by decide +kernel
theorem dX12_isPlace_24 : decode cX12_isPlace 24 = .ok (.iconst 0, 1) := by decide +kernel
theorem dX12_isPlace_25 : decode cX12_isPlace 25 = .ok (.ireturn, 1) := by decide +kernel
theorem dX12_sheet_0 : decode cX12_sheet 0 = .ok (.iload_n 1, 1) := by decide +kernel
theorem dX12_sheet_1 : decode cX12_sheet 1 = .ok (.iload_n 2, 1) := by decide +kernel
theorem dX12_sheet_2 : decode cX12_sheet 2 = .ok (.invokestatic 152, 3) := by decide +kernel
theorem dX12_sheet_5 : decode cX12_sheet 5 = .ok (.ifCond .ne 5, 3) := by decide +kernel
theorem dX12_sheet_8 : decode cX12_sheet 8 = .ok (.iconst (-1), 1) := by decide +kernel
theorem dX12_sheet_9 : decode cX12_sheet 9 = .ok (.ireturn, 1) := by decide +kernel
theorem dX12_sheet_10 : decode cX12_sheet 10 = .ok (.aload_n 0, 1) := by decide +kernel
theorem dX12_sheet_11 : decode cX12_sheet 11 = .ok (.invokevirtual 136, 3) := by decide +kernel
theorem dX12_sheet_14 : decode cX12_sheet 14 = .ok (.pop, 1) := by decide +kernel
theorem dX12_sheet_15 : decode cX12_sheet 15 = .ok (.aload_n 0, 1) := by decide +kernel
theorem dX12_sheet_16 : decode cX12_sheet 16 = .ok (.getfield 50, 3) := by decide +kernel
theorem dX12_sheet_19 : decode cX12_sheet 19 = .ok (.bipush 32, 2) := by decide +kernel
theorem dX12_sheet_21 : decode cX12_sheet 21 = .ok (.iload_n 1, 1) := by decide +kernel
theorem dX12_sheet_22 : decode cX12_sheet 22 = .ok (.imul, 1) := by decide +kernel
theorem dX12_sheet_23 : decode cX12_sheet 23 = .ok (.iload_n 2, 1) := by decide +kernel
theorem dX12_sheet_24 : decode cX12_sheet 24 = .ok (.iadd, 1) := by decide +kernel
theorem dX12_sheet_25 : decode cX12_sheet 25 = .ok (.iaload, 1) := by decide +kernel
theorem dX12_sheet_26 : decode cX12_sheet 26 = .ok (.ireturn, 1) := by decide +kernel
theorem dX12_whose_0 : decode cX12_whose 0 = .ok (.iload_n 1, 1) := by decide +kernel
theorem dX12_whose_1 : decode cX12_whose 1 = .ok (.iload_n 2, 1) := by decide +kernel
theorem dX12_whose_2 : decode cX12_whose 2 = .ok (.invokestatic 152, 3) := by decide +kernel
theorem dX12_whose_5 : decode cX12_whose 5 = .ok (.ifCond .ne 5, 3) := by decide +kernel
theorem dX12_whose_8 : decode cX12_whose 8 = .ok (.iconst (-1), 1) := by decide +kernel
theorem dX12_whose_9 : decode cX12_whose 9 = .ok (.ireturn, 1) := by decide +kernel
theorem dX12_whose_10 : decode cX12_whose 10 = .ok (.aload_n 0, 1) := by decide +kernel
theorem dX12_whose_11 : decode cX12_whose 11 = .ok (.invokevirtual 136, 3) := by decide +kernel
theorem dX12_whose_14 : decode cX12_whose 14 = .ok (.pop, 1) := by decide +kernel
theorem dX12_whose_15 : decode cX12_whose 15 = .ok (.aload_n 0, 1) := by decide +kernel
theorem dX12_whose_16 : decode cX12_whose 16 = .ok (.getfield 53, 3) := by decide +kernel
theorem dX12_whose_19 : decode cX12_whose 19 = .ok (.bipush 32, 2) := by decide +kernel
theorem dX12_whose_21 : decode cX12_whose 21 = .ok (.iload_n 1, 1) := by decide +kernel
theorem dX12_whose_22 : decode cX12_whose 22 = .ok (.imul, 1) := by decide +kernel
theorem dX12_whose_23 : decode cX12_whose 23 = .ok (.iload_n 2, 1) := by decide +kernel
theorem dX12_whose_24 : decode cX12_whose 24 = .ok (.iadd, 1) := by decide +kernel
theorem dX12_whose_25 : decode cX12_whose 25 = .ok (.iaload, 1) := by decide +kernel
theorem dX12_whose_26 : decode cX12_whose 26 = .ok (.ireturn, 1) := by decide +kernel
theorem dX12_hasRun_0 : decode cX12_hasRun 0 = .ok (.iload_n 1, 1) := by decide +kernel
theorem dX12_hasRun_1 : decode cX12_hasRun 1 = .ok (.iload_n 2, 1) := by decide +kernel
theorem dX12_hasRun_2 : decode cX12_hasRun 2 = .ok (.invokestatic 152, 3) := by decide +kernel
theorem dX12_hasRun_5 : decode cX12_hasRun 5 = .ok (.ifCond .ne 5, 3) := by decide +kernel
theorem dX12_hasRun_8 : decode cX12_hasRun 8 = .ok (.iconst 0, 1) := by decide +kernel
theorem dX12_hasRun_9 : decode cX12_hasRun 9 = .ok (.ireturn, 1) := by decide +kernel
theorem dX12_hasRun_10 : decode cX12_hasRun 10 = .ok (.aload_n 0, 1) := by decide +kernel
theorem dX12_hasRun_11 : decode cX12_hasRun 11 = .ok (.invokevirtual 136, 3) := by decide +kernel
theorem dX12_hasRun_14 : decode cX12_hasRun 14 = .ok (.pop, 1) := by decide +kernel
theorem dX12_hasRun_15 : decode cX12_hasRun 15 = .ok (.aload_n 0, 1) := by decide +kernel
theorem dX12_hasRun_16 : decode cX12_hasRun 16 = .ok (.bipush 32, 2) := by decide +kernel
theorem dX12_hasRun_18 : decode cX12_hasRun 18 = .ok (.iload_n 1, 1) := by decide +kernel
theorem dX12_hasRun_19 : decode cX12_hasRun 19 = .ok (.imul, 1) := by decide +kernel
theorem dX12_hasRun_20 : decode cX12_hasRun 20 = .ok (.iload_n 2, 1) := by decide +kernel
theorem dX12_hasRun_21 : decode cX12_hasRun 21 = .ok (.iadd, 1) := by decide +kernel
theorem dX12_hasRun_22 : decode cX12_hasRun 22 = .ok (.invokevirtual 106, 3) := by decide +kernel
theorem dX12_hasRun_25 : decode cX12_hasRun 25 = .ok (.ifCond .ne 5, 3) := by decide +kernel
theorem dX12_hasRun_28 : decode cX12_hasRun 28 = .ok (.iconst 0, 1) := by decide +kernel
theorem dX12_hasRun_29 : decode cX12_hasRun 29 = .ok (.ireturn, 1) := by decide +kernel
theorem dX12_hasRun_30 : decode cX12_hasRun 30 = .ok (.aload_n 0, 1) := by decide +kernel
theorem dX12_hasRun_31 : decode cX12_hasRun 31 = .ok (.iload_n 1, 1) := by decide +kernel
theorem dX12_hasRun_32 : decode cX12_hasRun 32 = .ok (.iload_n 2, 1) := by decide +kernel
theorem dX12_hasRun_33 : decode cX12_hasRun 33 = .ok (.invokevirtual 128, 3) := by decide +kernel
theorem dX12_hasRun_36 : decode cX12_hasRun 36 = .ok (.iconst 1, 1) := by decide +kernel
theorem dX12_hasRun_37 : decode cX12_hasRun 37 = .ok (.ireturn, 1) := by decide +kernel
theorem dX12_words_0 : decode cX12_words 0 = .ok (.aload_n 0, 1) := by decide +kernel
theorem dX12_words_1 : decode cX12_words 1 = .ok (.iload_n 1, 1) := by decide +kernel
theorem dX12_words_2 : decode cX12_words 2 = .ok (.iload_n 2, 1) := by decide +kernel
theorem dX12_words_3 : decode cX12_words 3 = .ok (.invokevirtual 155, 3) := by decide +kernel
theorem dX12_words_6 : decode cX12_words 6 = .ok (.ifCond .ne 5, 3) := by decide +kernel
theorem dX12_words_9 : decode cX12_words 9 = .ok (.iconst (-1), 1) := by decide +kernel
theorem dX12_words_10 : decode cX12_words 10 = .ok (.ireturn, 1) := by decide +kernel
theorem dX12_words_11 : decode cX12_words 11 = .ok (.iconst 0, 1) := by decide +kernel
theorem dX12_words_12 : decode cX12_words 12 = .ok (.istore_n 3, 1) := by decide +kernel
theorem dX12_words_13 : decode cX12_words 13 = .ok (.iconst 0, 1) := by decide +kernel
theorem dX12_words_14 : decode cX12_words 14 = .ok (.istore 4, 2) := by decide +kernel
theorem dX12_words_16 : decode cX12_words 16 = .ok (.iload 4, 2) := by decide +kernel
theorem dX12_words_18 : decode cX12_words 18 = .ok (.aload_n 0, 1) := by decide +kernel
theorem dX12_words_19 : decode cX12_words 19 = .ok (.getfield 83, 3) := by decide +kernel
theorem dX12_words_22 : decode cX12_words 22 = .ok (.if_icmp .ge 21, 3) := by decide +kernel
theorem dX12_words_25 : decode cX12_words 25 = .ok (.aload_n 0, 1) := by decide +kernel
theorem dX12_words_26 : decode cX12_words 26 = .ok (.iload 4, 2) := by decide +kernel
theorem dX12_words_28 : decode cX12_words 28 = .ok (.invokevirtual 125, 3) := by decide +kernel
theorem dX12_words_31 : decode cX12_words 31 = .ok (.ifCond .eq 6, 3) := by decide +kernel
theorem dX12_words_34 : decode cX12_words 34 = .ok (.iinc 3 1, 3) := by decide +kernel
theorem dX12_words_37 : decode cX12_words 37 = .ok (.iinc 4 1, 3) := by decide +kernel
theorem dX12_words_40 : decode cX12_words 40 = .ok (.goto (-24), 3) := by decide +kernel
theorem dX12_words_43 : decode cX12_words 43 = .ok (.iload_n 3, 1) := by decide +kernel
theorem dX12_words_44 : decode cX12_words 44 = .ok (.ireturn, 1) := by decide +kernel
theorem dX12_read_0 : decode cX12_read 0 = .ok (.aload_n 0, 1) := by decide +kernel
theorem dX12_read_1 : decode cX12_read 1 = .ok (.iload_n 1, 1) := by decide +kernel
theorem dX12_read_2 : decode cX12_read 2 = .ok (.iload_n 2, 1) := by decide +kernel
theorem dX12_read_3 : decode cX12_read 3 = .ok (.invokevirtual 155, 3) := by decide +kernel
theorem dX12_read_6 : decode cX12_read 6 = .ok (.ifCond .eq 7, 3) := by decide +kernel
theorem dX12_read_9 : decode cX12_read 9 = .ok (.iload_n 3, 1) := by decide +kernel
theorem dX12_read_10 : decode cX12_read 10 = .ok (.ifCond .ge 5, 3) := by decide +kernel
theorem dX12_read_13 : decode cX12_read 13 = .ok (.iconst (-1), 1) := by decide +kernel
theorem dX12_read_14 : decode cX12_read 14 = .ok (.ireturn, 1) := by decide +kernel
theorem dX12_read_15 : decode cX12_read 15 = .ok (.iconst 0, 1) := by decide +kernel
theorem dX12_read_16 : decode cX12_read 16 = .ok (.istore 4, 2) := by decide +kernel
theorem dX12_read_18 : decode cX12_read 18 = .ok (.iconst 0, 1) := by decide +kernel
theorem dX12_read_19 : decode cX12_read 19 = .ok (.istore 5, 2) := by decide +kernel
theorem dX12_read_21 : decode cX12_read 21 = .ok (.iload 5, 2) := by decide +kernel
theorem dX12_read_23 : decode cX12_read 23 = .ok (.aload_n 0, 1) := by decide +kernel
theorem dX12_read_24 : decode cX12_read 24 = .ok (.getfield 83, 3) := by decide +kernel
theorem dX12_read_27 : decode cX12_read 27 = .ok (.if_icmp .ge 33, 3) := by decide +kernel
theorem dX12_read_30 : decode cX12_read 30 = .ok (.aload_n 0, 1) := by decide +kernel
theorem dX12_read_31 : decode cX12_read 31 = .ok (.iload 5, 2) := by decide +kernel
theorem dX12_read_33 : decode cX12_read 33 = .ok (.invokevirtual 125, 3) := by decide +kernel
theorem dX12_read_36 : decode cX12_read 36 = .ok (.ifCond .ne 6, 3) := by decide +kernel
theorem dX12_read_39 : decode cX12_read 39 = .ok (.goto 15, 3) := by decide +kernel
theorem dX12_read_42 : decode cX12_read 42 = .ok (.iload 4, 2) := by decide +kernel
theorem dX12_read_44 : decode cX12_read 44 = .ok (.iload_n 3, 1) := by decide +kernel
theorem dX12_read_45 : decode cX12_read 45 = .ok (.if_icmp .ne 6, 3) := by decide +kernel
theorem dX12_read_48 : decode cX12_read 48 = .ok (.iload 5, 2) := by decide +kernel
theorem dX12_read_50 : decode cX12_read 50 = .ok (.ireturn, 1) := by decide +kernel
theorem dX12_read_51 : decode cX12_read 51 = .ok (.iinc 4 1, 3) := by decide +kernel
theorem dX12_read_54 : decode cX12_read 54 = .ok (.iinc 5 1, 3) := by decide +kernel
theorem dX12_read_57 : decode cX12_read 57 = .ok (.goto (-36), 3) := by decide +kernel
theorem dX12_read_60 : decode cX12_read 60 = .ok (.iconst (-1), 1) := by decide +kernel
theorem dX12_read_61 : decode cX12_read 61 = .ok (.ireturn, 1) := by decide +kernel
theorem dX12_sides_0 : decode cX12_sides 0 = .ok (.iconst 0, 1) := by decide +kernel
theorem dX12_sides_1 : decode cX12_sides 1 = .ok (.istore_n 3, 1) := by decide +kernel
theorem dX12_sides_2 : decode cX12_sides 2 = .ok (.iconst 0, 1) := by decide +kernel
theorem dX12_sides_3 : decode cX12_sides 3 = .ok (.istore 4, 2) := by decide +kernel
theorem dX12_sides_5 : decode cX12_sides 5 = .ok (.iload 4, 2) := by decide +kernel
theorem dX12_sides_7 : decode cX12_sides 7 = .ok (.sipush 512, 3) := by decide +kernel
theorem dX12_sides_10 : decode cX12_sides 10 = .ok (.if_icmp .ge 125, 3) := by decide +kernel
theorem dX12_sides_13 : decode cX12_sides 13 = .ok (.aload_n 0, 1) := by decide +kernel
theorem dX12_sides_14 : decode cX12_sides 14 = .ok (.getfield 53, 3) := by decide +kernel
theorem dX12_sides_17 : decode cX12_sides 17 = .ok (.iload 4, 2) := by decide +kernel
theorem dX12_sides_19 : decode cX12_sides 19 = .ok (.iaload, 1) := by decide +kernel
theorem dX12_sides_20 : decode cX12_sides 20 = .ok (.iload_n 1, 1) := by decide +kernel
theorem dX12_sides_21 : decode cX12_sides 21 = .ok (.if_icmp .eq 6, 3) := by decide +kernel
theorem dX12_sides_24 : decode cX12_sides 24 = .ok (.goto 105, 3) := by decide +kernel
theorem dX12_sides_27 : decode cX12_sides 27 = .ok (.iload 4, 2) := by decide +kernel
theorem dX12_sides_29 : decode cX12_sides 29 = .ok (.bipush 32, 2) := by decide +kernel
theorem dX12_sides_31 : decode cX12_sides 31 = .ok (.irem, 1) := by decide +kernel
theorem dX12_sides_32 : decode cX12_sides 32 = .ok (.ifCond .le 19, 3) := by decide +kernel
theorem dX12_sides_35 : decode cX12_sides 35 = .ok (.aload_n 0, 1) := by decide +kernel
theorem dX12_sides_36 : decode cX12_sides 36 = .ok (.getfield 53, 3) := by decide +kernel
theorem dX12_sides_39 : decode cX12_sides 39 = .ok (.iload 4, 2) := by decide +kernel
theorem dX12_sides_41 : decode cX12_sides 41 = .ok (.iconst 1, 1) := by decide +kernel
theorem dX12_sides_42 : decode cX12_sides 42 = .ok (.isub, 1) := by decide +kernel
theorem dX12_sides_43 : decode cX12_sides 43 = .ok (.iaload, 1) := by decide +kernel
theorem dX12_sides_44 : decode cX12_sides 44 = .ok (.iload_n 2, 1) := by decide +kernel
theorem dX12_sides_45 : decode cX12_sides 45 = .ok (.if_icmp .ne 6, 3) := by decide +kernel
theorem dX12_sides_48 : decode cX12_sides 48 = .ok (.iinc 3 1, 3) := by decide +kernel
theorem dX12_sides_51 : decode cX12_sides 51 = .ok (.iload 4, 2) := by decide +kernel
theorem dX12_sides_53 : decode cX12_sides 53 = .ok (.bipush 32, 2) := by decide +kernel
theorem dX12_sides_55 : decode cX12_sides 55 = .ok (.irem, 1) := by decide +kernel
theorem dX12_sides_56 : decode cX12_sides 56 = .ok (.bipush 31, 2) := by decide +kernel
theorem dX12_sides_58 : decode cX12_sides 58 = .ok (.if_icmp .ge 19, 3) := by decide +kernel
theorem dX12_sides_61 : decode cX12_sides 61 = .ok (.aload_n 0, 1) := by decide +kernel
theorem dX12_sides_62 : decode cX12_sides 62 = .ok (.getfield 53, 3) := by decide +kernel
theorem dX12_sides_65 : decode cX12_sides 65 = .ok (.iload 4, 2) := by decide +kernel
theorem dX12_sides_67 : decode cX12_sides 67 = .ok (.iconst 1, 1) := by decide +kernel
theorem dX12_sides_68 : decode cX12_sides 68 = .ok (.iadd, 1) := by decide +kernel
theorem dX12_sides_69 : decode cX12_sides 69 = .ok (.iaload, 1) := by decide +kernel
theorem dX12_sides_70 : decode cX12_sides 70 = .ok (.iload_n 2, 1) := by decide +kernel
theorem dX12_sides_71 : decode cX12_sides 71 = .ok (.if_icmp .ne 6, 3) := by decide +kernel
theorem dX12_sides_74 : decode cX12_sides 74 = .ok (.iinc 3 1, 3) := by decide +kernel
theorem dX12_sides_77 : decode cX12_sides 77 = .ok (.iload 4, 2) := by decide +kernel
theorem dX12_sides_79 : decode cX12_sides 79 = .ok (.bipush 32, 2) := by decide +kernel
theorem dX12_sides_81 : decode cX12_sides 81 = .ok (.if_icmp .lt 20, 3) := by decide +kernel
theorem dX12_sides_84 : decode cX12_sides 84 = .ok (.aload_n 0, 1) := by decide +kernel
theorem dX12_sides_85 : decode cX12_sides 85 = .ok (.getfield 53, 3) := by decide +kernel
theorem dX12_sides_88 : decode cX12_sides 88 = .ok (.iload 4, 2) := by decide +kernel
theorem dX12_sides_90 : decode cX12_sides 90 = .ok (.bipush 32, 2) := by decide +kernel
theorem dX12_sides_92 : decode cX12_sides 92 = .ok (.isub, 1) := by decide +kernel
theorem dX12_sides_93 : decode cX12_sides 93 = .ok (.iaload, 1) := by decide +kernel
theorem dX12_sides_94 : decode cX12_sides 94 = .ok (.iload_n 2, 1) := by decide +kernel
theorem dX12_sides_95 : decode cX12_sides 95 = .ok (.if_icmp .ne 6, 3) := by decide +kernel
theorem dX12_sides_98 : decode cX12_sides 98 = .ok (.iinc 3 1, 3) := by decide +kernel
theorem dX12_sides_101 : decode cX12_sides 101 = .ok (.iload 4, 2) := by decide +kernel
theorem dX12_sides_103 : decode cX12_sides 103 = .ok (.bipush 32, 2) := by decide +kernel
theorem dX12_sides_105 : decode cX12_sides 105 = .ok (.iadd, 1) := by decide +kernel
theorem dX12_sides_106 : decode cX12_sides 106 = .ok (.sipush 512, 3) := by decide +kernel
theorem dX12_sides_109 : decode cX12_sides 109 = .ok (.if_icmp .ge 20, 3) := by decide +kernel
theorem dX12_sides_112 : decode cX12_sides 112 = .ok (.aload_n 0, 1) := by decide +kernel
theorem dX12_sides_113 : decode cX12_sides 113 = .ok (.getfield 53, 3) := by decide +kernel
theorem dX12_sides_116 : decode cX12_sides 116 = .ok (.iload 4, 2) := by decide +kernel
theorem dX12_sides_118 : decode cX12_sides 118 = .ok (.bipush 32, 2) := by decide +kernel
theorem dX12_sides_120 : decode cX12_sides 120 = .ok (.iadd, 1) := by decide +kernel
theorem dX12_sides_121 : decode cX12_sides 121 = .ok (.iaload, 1) := by decide +kernel
theorem dX12_sides_122 : decode cX12_sides 122 = .ok (.iload_n 2, 1) := by decide +kernel
theorem dX12_sides_123 : decode cX12_sides 123 = .ok (.if_icmp .ne 6, 3) := by decide +kernel
theorem dX12_sides_126 : decode cX12_sides 126 = .ok (.iinc 3 1, 3) := by decide +kernel
theorem dX12_sides_129 : decode cX12_sides 129 = .ok (.iinc 4 1, 3) := by decide +kernel
theorem dX12_sides_132 : decode cX12_sides 132 = .ok (.goto (-127), 3) := by decide +kernel
theorem dX12_sides_135 : decode cX12_sides 135 = .ok (.iload_n 3, 1) := by decide +kernel
theorem dX12_sides_136 : decode cX12_sides 136 = .ok (.ireturn, 1) := by decide +kernel
theorem dX12_worthOf_0 : decode cX12_worthOf 0 = .ok (.aload_n 0, 1) := by decide +kernel
theorem dX12_worthOf_1 : decode cX12_worthOf 1 = .ok (.iload_n 1, 1) := by decide +kernel
theorem dX12_worthOf_2 : decode cX12_worthOf 2 = .ok (.iload_n 2, 1) := by decide +kernel
theorem dX12_worthOf_3 : decode cX12_worthOf 3 = .ok (.invokevirtual 158, 3) := by decide +kernel
theorem dX12_worthOf_6 : decode cX12_worthOf 6 = .ok (.istore_n 3, 1) := by decide +kernel
theorem dX12_worthOf_7 : decode cX12_worthOf 7 = .ok (.iconst 0, 1) := by decide +kernel
theorem dX12_worthOf_8 : decode cX12_worthOf 8 = .ok (.istore 4, 2) := by decide +kernel
theorem dX12_worthOf_10 : decode cX12_worthOf 10 = .ok (.iload 4, 2) := by decide +kernel
theorem dX12_worthOf_12 : decode cX12_worthOf 12 = .ok (.bipush 16, 2) := by decide +kernel
theorem dX12_worthOf_14 : decode cX12_worthOf 14 = .ok (.if_icmp .ge 23, 3) := by decide +kernel
theorem dX12_worthOf_17 : decode cX12_worthOf 17 = .ok (.aload_n 0, 1) := by decide +kernel
theorem dX12_worthOf_18 : decode cX12_worthOf 18 = .ok (.iload_n 1, 1) := by decide +kernel
theorem dX12_worthOf_19 : decode cX12_worthOf 19 = .ok (.iload_n 2, 1) := by decide +kernel
theorem dX12_worthOf_20 : decode cX12_worthOf 20 = .ok (.iload 4, 2) := by decide +kernel
theorem dX12_worthOf_22 : decode cX12_worthOf 22 = .ok (.invokevirtual 100, 3) := by decide +kernel
theorem dX12_worthOf_25 : decode cX12_worthOf 25 = .ok (.ifCond .le 6, 3) := by decide +kernel
theorem dX12_worthOf_28 : decode cX12_worthOf 28 = .ok (.iinc 3 2, 3) := by decide +kernel
theorem dX12_worthOf_31 : decode cX12_worthOf 31 = .ok (.iinc 4 1, 3) := by decide +kernel
theorem dX12_worthOf_34 : decode cX12_worthOf 34 = .ok (.goto (-24), 3) := by decide +kernel
theorem dX12_worthOf_37 : decode cX12_worthOf 37 = .ok (.iconst 0, 1) := by decide +kernel
theorem dX12_worthOf_38 : decode cX12_worthOf 38 = .ok (.istore 4, 2) := by decide +kernel
theorem dX12_worthOf_40 : decode cX12_worthOf 40 = .ok (.iload 4, 2) := by decide +kernel
theorem dX12_worthOf_42 : decode cX12_worthOf 42 = .ok (.bipush 32, 2) := by decide +kernel
theorem dX12_worthOf_44 : decode cX12_worthOf 44 = .ok (.if_icmp .ge 23, 3) := by decide +kernel
theorem dX12_worthOf_47 : decode cX12_worthOf 47 = .ok (.aload_n 0, 1) := by decide +kernel
theorem dX12_worthOf_48 : decode cX12_worthOf 48 = .ok (.iload_n 1, 1) := by decide +kernel
theorem dX12_worthOf_49 : decode cX12_worthOf 49 = .ok (.iload_n 2, 1) := by decide +kernel
theorem dX12_worthOf_50 : decode cX12_worthOf 50 = .ok (.iload 4, 2) := by decide +kernel
theorem dX12_worthOf_52 : decode cX12_worthOf 52 = .ok (.invokevirtual 103, 3) := by decide +kernel
theorem dX12_worthOf_55 : decode cX12_worthOf 55 = .ok (.ifCond .le 6, 3) := by decide +kernel
theorem dX12_worthOf_58 : decode cX12_worthOf 58 = .ok (.iinc 3 2, 3) := by decide +kernel
theorem dX12_worthOf_61 : decode cX12_worthOf 61 = .ok (.iinc 4 1, 3) := by decide +kernel
theorem dX12_worthOf_64 : decode cX12_worthOf 64 = .ok (.goto (-24), 3) := by decide +kernel
theorem dX12_worthOf_67 : decode cX12_worthOf 67 = .ok (.iload_n 3, 1) := by decide +kernel
theorem dX12_worthOf_68 : decode cX12_worthOf 68 = .ok (.ireturn, 1) := by decide +kernel
theorem dX12_worthNow_0 : decode cX12_worthNow 0 = .ok (.iconst 0, 1) := by decide +kernel
theorem dX12_worthNow_1 : decode cX12_worthNow 1 = .ok (.istore_n 1, 1) := by decide +kernel
theorem dX12_worthNow_2 : decode cX12_worthNow 2 = .ok (.iconst 0, 1) := by decide +kernel
theorem dX12_worthNow_3 : decode cX12_worthNow 3 = .ok (.istore_n 2, 1) := by decide +kernel
theorem dX12_worthNow_4 : decode cX12_worthNow 4 = .ok (.iload_n 2, 1) := by decide +kernel
theorem dX12_worthNow_5 : decode cX12_worthNow 5 = .ok (.bipush 10, 2) := by decide +kernel
theorem dX12_worthNow_7 : decode cX12_worthNow 7 = .ok (.if_icmp .ge 52, 3) := by decide +kernel
theorem dX12_worthNow_10 : decode cX12_worthNow 10 = .ok (.iload_n 2, 1) := by decide +kernel
theorem dX12_worthNow_11 : decode cX12_worthNow 11 = .ok (.iconst 1, 1) := by decide +kernel
theorem dX12_worthNow_12 : decode cX12_worthNow 12 = .ok (.iadd, 1) := by decide +kernel
theorem dX12_worthNow_13 : decode cX12_worthNow 13 = .ok (.istore_n 3, 1) := by decide +kernel
theorem dX12_worthNow_14 : decode cX12_worthNow 14 = .ok (.iload_n 3, 1) := by decide +kernel
theorem dX12_worthNow_15 : decode cX12_worthNow 15 = .ok (.bipush 10, 2) := by decide +kernel
theorem dX12_worthNow_17 : decode cX12_worthNow 17 = .ok (.if_icmp .ge 36, 3) := by decide +kernel
theorem dX12_worthNow_20 : decode cX12_worthNow 20 = .ok (.aload_n 0, 1) := by decide +kernel
theorem dX12_worthNow_21 : decode cX12_worthNow 21 = .ok (.getfield 26, 3) := by decide +kernel
theorem dX12_worthNow_24 : decode cX12_worthNow 24 = .ok (.iload_n 2, 1) := by decide +kernel
theorem dX12_worthNow_25 : decode cX12_worthNow 25 = .ok (.baload, 1) := by decide +kernel
theorem dX12_worthNow_26 : decode cX12_worthNow 26 = .ok (.ifCond .eq 21, 3) := by decide +kernel
theorem dX12_worthNow_29 : decode cX12_worthNow 29 = .ok (.aload_n 0, 1) := by decide +kernel
theorem dX12_worthNow_30 : decode cX12_worthNow 30 = .ok (.getfield 26, 3) := by decide +kernel
theorem dX12_worthNow_33 : decode cX12_worthNow 33 = .ok (.iload_n 3, 1) := by decide +kernel
theorem dX12_worthNow_34 : decode cX12_worthNow 34 = .ok (.baload, 1) := by decide +kernel
theorem dX12_worthNow_35 : decode cX12_worthNow 35 = .ok (.ifCond .eq 12, 3) := by decide +kernel
theorem dX12_worthNow_38 : decode cX12_worthNow 38 = .ok (.iload_n 1, 1) := by decide +kernel
theorem dX12_worthNow_39 : decode cX12_worthNow 39 = .ok (.aload_n 0, 1) := by decide +kernel
theorem dX12_worthNow_40 : decode cX12_worthNow 40 = .ok (.iload_n 2, 1) := by decide +kernel
theorem dX12_worthNow_41 : decode cX12_worthNow 41 = .ok (.iload_n 3, 1) := by decide +kernel
theorem dX12_worthNow_42 : decode cX12_worthNow 42 = .ok (.invokevirtual 162, 3) := by decide +kernel
theorem dX12_worthNow_45 : decode cX12_worthNow 45 = .ok (.iadd, 1) := by decide +kernel
theorem dX12_worthNow_46 : decode cX12_worthNow 46 = .ok (.istore_n 1, 1) := by decide +kernel
theorem dX12_worthNow_47 : decode cX12_worthNow 47 = .ok (.iinc 3 1, 3) := by decide +kernel
theorem dX12_worthNow_50 : decode cX12_worthNow 50 = .ok (.goto (-36), 3) := by decide +kernel
theorem dX12_worthNow_53 : decode cX12_worthNow 53 = .ok (.iinc 2 1, 3) := by decide +kernel
theorem dX12_worthNow_56 : decode cX12_worthNow 56 = .ok (.goto (-52), 3) := by decide +kernel
theorem dX12_worthNow_59 : decode cX12_worthNow 59 = .ok (.iload_n 1, 1) := by decide +kernel
theorem dX12_worthNow_60 : decode cX12_worthNow 60 = .ok (.ireturn, 1) := by decide +kernel
theorem dX12_worth_0 : decode cX12_worth 0 = .ok (.aload_n 0, 1) := by decide +kernel
theorem dX12_worth_1 : decode cX12_worth 1 = .ok (.invokevirtual 136, 3) := by decide +kernel
theorem dX12_worth_4 : decode cX12_worth 4 = .ok (.pop, 1) := by decide +kernel
theorem dX12_worth_5 : decode cX12_worth 5 = .ok (.aload_n 0, 1) := by decide +kernel
theorem dX12_worth_6 : decode cX12_worth 6 = .ok (.invokevirtual 165, 3) := by decide +kernel
theorem dX12_worth_9 : decode cX12_worth 9 = .ok (.ireturn, 1) := by decide +kernel
theorem dX12_rowOf_0 : decode cX12_rowOf 0 = .ok (.iload_n 0, 1) := by decide +kernel
theorem dX12_rowOf_1 : decode cX12_rowOf 1 = .ok (.bipush 64, 2) := by decide +kernel
theorem dX12_rowOf_3 : decode cX12_rowOf 3 = .ok (.idiv, 1) := by decide +kernel
theorem dX12_rowOf_4 : decode cX12_rowOf 4 = .ok (.iconst 5, 1) := by decide +kernel
theorem dX12_rowOf_5 : decode cX12_rowOf 5 = .ok (.isub, 1) := by decide +kernel
theorem dX12_rowOf_6 : decode cX12_rowOf 6 = .ok (.ireturn, 1) := by decide +kernel
theorem dX12_columnOf_0 : decode cX12_columnOf 0 = .ok (.iload_n 0, 1) := by decide +kernel
theorem dX12_columnOf_1 : decode cX12_columnOf 1 = .ok (.bipush 64, 2) := by decide +kernel
theorem dX12_columnOf_3 : decode cX12_columnOf 3 = .ok (.irem, 1) := by decide +kernel
theorem dX12_columnOf_4 : decode cX12_columnOf 4 = .ok (.bipush 10, 2) := by decide +kernel
theorem dX12_columnOf_6 : decode cX12_columnOf 6 = .ok (.isub, 1) := by decide +kernel
theorem dX12_columnOf_7 : decode cX12_columnOf 7 = .ok (.ireturn, 1) := by decide +kernel
theorem dX12_fits_0 : decode cX12_fits 0 = .ok (.iconst 1, 1) := by decide +kernel
theorem dX12_fits_1 : decode cX12_fits 1 = .ok (.istore_n 2, 1) := by decide +kernel
theorem dX12_fits_2 : decode cX12_fits 2 = .ok (.iconst 0, 1) := by decide +kernel
theorem dX12_fits_3 : decode cX12_fits 3 = .ok (.istore_n 3, 1) := by decide +kernel
theorem dX12_fits_4 : decode cX12_fits 4 = .ok (.iload_n 3, 1) := by decide +kernel
theorem dX12_fits_5 : decode cX12_fits 5 = .ok (.iconst 5, 1) := by decide +kernel
theorem dX12_fits_6 : decode cX12_fits 6 = .ok (.if_icmp .ge 181, 3) := by decide +kernel
theorem dX12_fits_9 : decode cX12_fits 9 = .ok (.iconst 0, 1) := by decide +kernel
theorem dX12_fits_10 : decode cX12_fits 10 = .ok (.istore 4, 2) := by decide +kernel
theorem dX12_fits_12 : decode cX12_fits 12 = .ok (.iload 4, 2) := by decide +kernel
theorem dX12_fits_14 : decode cX12_fits 14 = .ok (.bipush 10, 2) := by decide +kernel
theorem dX12_fits_16 : decode cX12_fits 16 = .ok (.if_icmp .ge 165, 3) := by decide +kernel
theorem dX12_fits_19 : decode cX12_fits 19 = .ok (.aload_n 0, 1) := by decide +kernel
theorem dX12_fits_20 : decode cX12_fits 20 = .ok (.iload_n 1, 1) := by decide +kernel
theorem dX12_fits_21 : decode cX12_fits 21 = .ok (.iload_n 3, 1) := by decide +kernel
theorem dX12_fits_22 : decode cX12_fits 22 = .ok (.iload 4, 2) := by decide +kernel
theorem dX12_fits_24 : decode cX12_fits 24 = .ok (.invokevirtual 86, 3) := by decide +kernel
theorem dX12_fits_27 : decode cX12_fits 27 = .ok (.bipush 95, 2) := by decide +kernel
theorem dX12_fits_29 : decode cX12_fits 29 = .ok (.if_icmp .ne 6, 3) := by decide +kernel
theorem dX12_fits_32 : decode cX12_fits 32 = .ok (.goto 143, 3) := by decide +kernel
theorem dX12_fits_35 : decode cX12_fits 35 = .ok (.aload_n 0, 1) := by decide +kernel
theorem dX12_fits_36 : decode cX12_fits 36 = .ok (.getfield 29, 3) := by decide +kernel
theorem dX12_fits_39 : decode cX12_fits 39 = .ok (.iload_n 1, 1) := by decide +kernel
theorem dX12_fits_40 : decode cX12_fits 40 = .ok (.iaload, 1) := by decide +kernel
theorem dX12_fits_41 : decode cX12_fits 41 = .ok (.iload_n 3, 1) := by decide +kernel
theorem dX12_fits_42 : decode cX12_fits 42 = .ok (.iadd, 1) := by decide +kernel
theorem dX12_fits_43 : decode cX12_fits 43 = .ok (.istore 5, 2) := by decide +kernel
theorem dX12_fits_45 : decode cX12_fits 45 = .ok (.aload_n 0, 1) := by decide +kernel
theorem dX12_fits_46 : decode cX12_fits 46 = .ok (.getfield 32, 3) := by decide +kernel
theorem dX12_fits_49 : decode cX12_fits 49 = .ok (.iload_n 1, 1) := by decide +kernel
theorem dX12_fits_50 : decode cX12_fits 50 = .ok (.iaload, 1) := by decide +kernel
theorem dX12_fits_51 : decode cX12_fits 51 = .ok (.iload 4, 2) := by decide +kernel
theorem dX12_fits_53 : decode cX12_fits 53 = .ok (.iadd, 1) := by decide +kernel
theorem dX12_fits_54 : decode cX12_fits 54 = .ok (.istore 6, 2) := by decide +kernel
theorem dX12_fits_56 : decode cX12_fits 56 = .ok (.iload 5, 2) := by decide +kernel
theorem dX12_fits_58 : decode cX12_fits 58 = .ok (.iload 6, 2) := by decide +kernel
theorem dX12_fits_60 : decode cX12_fits 60 = .ok (.invokestatic 152, 3) := by decide +kernel
theorem dX12_fits_63 : decode cX12_fits 63 = .ok (.ifCond .eq 20, 3) := by decide +kernel
theorem dX12_fits_66 : decode cX12_fits 66 = .ok (.aload_n 0, 1) := by decide +kernel
theorem dX12_fits_67 : decode cX12_fits 67 = .ok (.getfield 56, 3) := by decide +kernel
theorem dX12_fits_70 : decode cX12_fits 70 = .ok (.bipush 32, 2) := by decide +kernel
theorem dX12_fits_72 : decode cX12_fits 72 = .ok (.iload 5, 2) := by decide +kernel
theorem dX12_fits_74 : decode cX12_fits 74 = .ok (.imul, 1) := by decide +kernel
theorem dX12_fits_75 : decode cX12_fits 75 = .ok (.iload 6, 2) := by decide +kernel
theorem dX12_fits_77 : decode cX12_fits 77 = .ok (.iadd, 1) := by decide +kernel
theorem dX12_fits_78 : decode cX12_fits 78 = .ok (.iaload, 1) := by decide +kernel
theorem dX12_fits_79 : decode cX12_fits 79 = .ok (.iconst (-1), 1) := by decide +kernel
theorem dX12_fits_80 : decode cX12_fits 80 = .ok (.if_icmp .eq 5, 3) := by decide +kernel
theorem dX12_fits_83 : decode cX12_fits 83 = .ok (.iconst 0, 1) := by decide +kernel
theorem dX12_fits_84 : decode cX12_fits 84 = .ok (.ireturn, 1) := by decide +kernel
theorem dX12_fits_85 : decode cX12_fits 85 = .ok (.bipush 32, 2) := by decide +kernel
theorem dX12_fits_87 : decode cX12_fits 87 = .ok (.iload 5, 2) := by decide +kernel
theorem dX12_fits_89 : decode cX12_fits 89 = .ok (.imul, 1) := by decide +kernel
theorem dX12_fits_90 : decode cX12_fits 90 = .ok (.iload 6, 2) := by decide +kernel
theorem dX12_fits_92 : decode cX12_fits 92 = .ok (.iadd, 1) := by decide +kernel
theorem dX12_fits_93 : decode cX12_fits 93 = .ok (.istore 7, 2) := by decide +kernel
theorem dX12_fits_95 : decode cX12_fits 95 = .ok (.iload 6, 2) := by decide +kernel
theorem dX12_fits_97 : decode cX12_fits 97 = .ok (.ifCond .le 16, 3) := by decide +kernel
theorem dX12_fits_100 : decode cX12_fits 100 = .ok (.aload_n 0, 1) := by decide +kernel
theorem dX12_fits_101 : decode cX12_fits 101 = .ok (.getfield 56, 3) := by decide +kernel
theorem dX12_fits_104 : decode cX12_fits 104 = .ok (.iload 7, 2) := by decide +kernel
theorem dX12_fits_106 : decode cX12_fits 106 = .ok (.iconst 1, 1) := by decide +kernel
theorem dX12_fits_107 : decode cX12_fits 107 = .ok (.isub, 1) := by decide +kernel
theorem dX12_fits_108 : decode cX12_fits 108 = .ok (.iaload, 1) := by decide +kernel
theorem dX12_fits_109 : decode cX12_fits 109 = .ok (.iconst (-1), 1) := by decide +kernel
theorem dX12_fits_110 : decode cX12_fits 110 = .ok (.if_icmp .ne 63, 3) := by decide +kernel
theorem dX12_fits_113 : decode cX12_fits 113 = .ok (.iload 6, 2) := by decide +kernel
theorem dX12_fits_115 : decode cX12_fits 115 = .ok (.bipush 31, 2) := by decide +kernel
theorem dX12_fits_117 : decode cX12_fits 117 = .ok (.if_icmp .ge 16, 3) := by decide +kernel
theorem dX12_fits_120 : decode cX12_fits 120 = .ok (.aload_n 0, 1) := by decide +kernel
theorem dX12_fits_121 : decode cX12_fits 121 = .ok (.getfield 56, 3) := by decide +kernel
theorem dX12_fits_124 : decode cX12_fits 124 = .ok (.iload 7, 2) := by decide +kernel
theorem dX12_fits_126 : decode cX12_fits 126 = .ok (.iconst 1, 1) := by decide +kernel
theorem dX12_fits_127 : decode cX12_fits 127 = .ok (.iadd, 1) := by decide +kernel
theorem dX12_fits_128 : decode cX12_fits 128 = .ok (.iaload, 1) := by decide +kernel
theorem dX12_fits_129 : decode cX12_fits 129 = .ok (.iconst (-1), 1) := by decide +kernel
theorem dX12_fits_130 : decode cX12_fits 130 = .ok (.if_icmp .ne 43, 3) := by decide +kernel
theorem dX12_fits_133 : decode cX12_fits 133 = .ok (.iload 5, 2) := by decide +kernel
theorem dX12_fits_135 : decode cX12_fits 135 = .ok (.ifCond .le 17, 3) := by decide +kernel
theorem dX12_fits_138 : decode cX12_fits 138 = .ok (.aload_n 0, 1) := by decide +kernel
theorem dX12_fits_139 : decode cX12_fits 139 = .ok (.getfield 56, 3) := by decide +kernel
theorem dX12_fits_142 : decode cX12_fits 142 = .ok (.iload 7, 2) := by decide +kernel
theorem dX12_fits_144 : decode cX12_fits 144 = .ok (.bipush 32, 2) := by decide +kernel
theorem dX12_fits_146 : decode cX12_fits 146 = .ok (.isub, 1) := by decide +kernel
theorem dX12_fits_147 : decode cX12_fits 147 = .ok (.iaload, 1) := by decide +kernel
theorem dX12_fits_148 : decode cX12_fits 148 = .ok (.iconst (-1), 1) := by decide +kernel
theorem dX12_fits_149 : decode cX12_fits 149 = .ok (.if_icmp .ne 24, 3) := by decide +kernel
theorem dX12_fits_152 : decode cX12_fits 152 = .ok (.iload 5, 2) := by decide +kernel
theorem dX12_fits_154 : decode cX12_fits 154 = .ok (.bipush 15, 2) := by decide +kernel
theorem dX12_fits_156 : decode cX12_fits 156 = .ok (.if_icmp .ge 19, 3) := by decide +kernel
theorem dX12_fits_159 : decode cX12_fits 159 = .ok (.aload_n 0, 1) := by decide +kernel
theorem dX12_fits_160 : decode cX12_fits 160 = .ok (.getfield 56, 3) := by decide +kernel
theorem dX12_fits_163 : decode cX12_fits 163 = .ok (.iload 7, 2) := by decide +kernel
theorem dX12_fits_165 : decode cX12_fits 165 = .ok (.bipush 32, 2) := by decide +kernel
theorem dX12_fits_167 : decode cX12_fits 167 = .ok (.iadd, 1) := by decide +kernel
theorem dX12_fits_168 : decode cX12_fits 168 = .ok (.iaload, 1) := by decide +kernel
theorem dX12_fits_169 : decode cX12_fits 169 = .ok (.iconst (-1), 1) := by decide +kernel
theorem dX12_fits_170 : decode cX12_fits 170 = .ok (.if_icmp .eq 5, 3) := by decide +kernel
theorem dX12_fits_173 : decode cX12_fits 173 = .ok (.iconst 2, 1) := by decide +kernel
theorem dX12_fits_174 : decode cX12_fits 174 = .ok (.istore_n 2, 1) := by decide +kernel
theorem dX12_fits_175 : decode cX12_fits 175 = .ok (.iinc 4 1, 3) := by decide +kernel
theorem dX12_fits_178 : decode cX12_fits 178 = .ok (.goto (-166), 3) := by decide +kernel
theorem dX12_fits_181 : decode cX12_fits 181 = .ok (.iinc 3 1, 3) := by decide +kernel
theorem dX12_fits_184 : decode cX12_fits 184 = .ok (.goto (-180), 3) := by decide +kernel
theorem dX12_fits_187 : decode cX12_fits 187 = .ok (.iload_n 2, 1) := by decide +kernel
theorem dX12_fits_188 : decode cX12_fits 188 = .ok (.ireturn, 1) := by decide +kernel
theorem dX12_anyLies_0 : decode cX12_anyLies 0 = .ok (.iconst 0, 1) := by decide +kernel
theorem dX12_anyLies_1 : decode cX12_anyLies 1 = .ok (.istore_n 1, 1) := by decide +kernel
theorem dX12_anyLies_2 : decode cX12_anyLies 2 = .ok (.iconst 0, 1) := by decide +kernel
theorem dX12_anyLies_3 : decode cX12_anyLies 3 = .ok (.istore_n 2, 1) := by decide +kernel
theorem dX12_anyLies_4 : decode cX12_anyLies 4 = .ok (.iload_n 2, 1) := by decide +kernel
theorem dX12_anyLies_5 : decode cX12_anyLies 5 = .ok (.bipush 10, 2) := by decide +kernel
theorem dX12_anyLies_7 : decode cX12_anyLies 7 = .ok (.if_icmp .ge 28, 3) := by decide +kernel
theorem dX12_anyLies_10 : decode cX12_anyLies 10 = .ok (.iload_n 1, 1) := by decide +kernel
theorem dX12_anyLies_11 : decode cX12_anyLies 11 = .ok (.ifCond .ne 12, 3) := by decide +kernel
theorem dX12_anyLies_14 : decode cX12_anyLies 14 = .ok (.aload_n 0, 1) := by decide +kernel
theorem dX12_anyLies_15 : decode cX12_anyLies 15 = .ok (.getfield 26, 3) := by decide +kernel
theorem dX12_anyLies_18 : decode cX12_anyLies 18 = .ok (.iload_n 2, 1) := by decide +kernel
theorem dX12_anyLies_19 : decode cX12_anyLies 19 = .ok (.baload, 1) := by decide +kernel
theorem dX12_anyLies_20 : decode cX12_anyLies 20 = .ok (.ifCond .eq 7, 3) := by decide +kernel
theorem dX12_anyLies_23 : decode cX12_anyLies 23 = .ok (.iconst 1, 1) := by decide +kernel
theorem dX12_anyLies_24 : decode cX12_anyLies 24 = .ok (.goto 4, 3) := by decide +kernel
theorem dX12_anyLies_27 : decode cX12_anyLies 27 = .ok (.iconst 0, 1) := by decide +kernel
theorem dX12_anyLies_28 : decode cX12_anyLies 28 = .ok (.istore_n 1, 1) := by decide +kernel
theorem dX12_anyLies_29 : decode cX12_anyLies 29 = .ok (.iinc 2 1, 3) := by decide +kernel
theorem dX12_anyLies_32 : decode cX12_anyLies 32 = .ok (.goto (-28), 3) := by decide +kernel
theorem dX12_anyLies_35 : decode cX12_anyLies 35 = .ok (.iload_n 1, 1) := by decide +kernel
theorem dX12_anyLies_36 : decode cX12_anyLies 36 = .ok (.ireturn, 1) := by decide +kernel
theorem dX12_notesEarly_0 : decode cX12_notesEarly 0 = .ok (.aload_n 0, 1) := by decide +kernel
theorem dX12_notesEarly_1 : decode cX12_notesEarly 1 = .ok (.invokevirtual 136, 3) := by decide +kernel
theorem dX12_notesEarly_4 : decode cX12_notesEarly 4 = .ok (.pop, 1) := by decide +kernel
theorem dX12_notesEarly_5 : decode cX12_notesEarly 5 = .ok (.iconst 0, 1) := by decide +kernel
theorem dX12_notesEarly_6 : decode cX12_notesEarly 6 = .ok (.istore_n 1, 1) := by decide +kernel
theorem dX12_notesEarly_7 : decode cX12_notesEarly 7 = .ok (.iload_n 1, 1) := by decide +kernel
theorem dX12_notesEarly_8 : decode cX12_notesEarly 8 = .ok (.sipush 512, 3) := by decide +kernel
theorem dX12_notesEarly_11 : decode cX12_notesEarly 11 = .ok (.if_icmp .ge 21, 3) := by decide +kernel
theorem dX12_notesEarly_14 : decode cX12_notesEarly 14 = .ok (.aload_n 0, 1) := by decide +kernel
theorem dX12_notesEarly_15 : decode cX12_notesEarly 15 = .ok (.getfield 56, 3) := by decide +kernel
theorem dX12_notesEarly_18 : decode cX12_notesEarly 18 = .ok (.iload_n 1, 1) := by decide +kernel
theorem dX12_notesEarly_19 : decode cX12_notesEarly 19 = .ok (.aload_n 0, 1) := by decide +kernel
theorem dX12_notesEarly_20 : decode cX12_notesEarly 20 = .ok (.getfield 53, 3) := by decide +kernel
theorem dX12_notesEarly_23 : decode cX12_notesEarly 23 = .ok (.iload_n 1, 1) := by decide +kernel
theorem dX12_notesEarly_24 : decode cX12_notesEarly 24 = .ok (.iaload, 1) := by decide +kernel
theorem dX12_notesEarly_25 : decode cX12_notesEarly 25 = .ok (.iastore, 1) := by decide +kernel
theorem dX12_notesEarly_26 : decode cX12_notesEarly 26 = .ok (.iinc 1 1, 3) := by decide +kernel
theorem dX12_notesEarly_29 : decode cX12_notesEarly 29 = .ok (.goto (-22), 3) := by decide +kernel
theorem dX12_notesEarly_32 : decode cX12_notesEarly 32 = .ok (.return_, 1) := by decide +kernel
theorem dX12_isNext_0 : decode cX12_isNext 0 = .ok (.iload_n 0, 1) := by decide +kernel
theorem dX12_isNext_1 : decode cX12_isNext 1 = .ok (.invokestatic 169, 3) := by decide +kernel
theorem dX12_isNext_4 : decode cX12_isNext 4 = .ok (.bipush (-4), 2) := by decide +kernel
theorem dX12_isNext_6 : decode cX12_isNext 6 = .ok (.bipush 15, 2) := by decide +kernel
theorem dX12_isNext_8 : decode cX12_isNext 8 = .ok (.invokestatic 69, 3) := by decide +kernel
theorem dX12_isNext_11 : decode cX12_isNext 11 = .ok (.ifCond .eq 21, 3) := by decide +kernel
theorem dX12_isNext_14 : decode cX12_isNext 14 = .ok (.iload_n 0, 1) := by decide +kernel
theorem dX12_isNext_15 : decode cX12_isNext 15 = .ok (.invokestatic 172, 3) := by decide +kernel
theorem dX12_isNext_18 : decode cX12_isNext 18 = .ok (.bipush (-9), 2) := by decide +kernel
theorem dX12_isNext_20 : decode cX12_isNext 20 = .ok (.bipush 31, 2) := by decide +kernel
theorem dX12_isNext_22 : decode cX12_isNext 22 = .ok (.invokestatic 69, 3) := by decide +kernel
theorem dX12_isNext_25 : decode cX12_isNext 25 = .ok (.ifCond .eq 7, 3) := by decide +kernel
theorem dX12_isNext_28 : decode cX12_isNext 28 = .ok (.iconst 1, 1) := by decide +kernel
theorem dX12_isNext_29 : decode cX12_isNext 29 = .ok (.goto 4, 3) := by decide +kernel
theorem dX12_isNext_32 : decode cX12_isNext 32 = .ok (.iconst 0, 1) := by decide +kernel
theorem dX12_isNext_33 : decode cX12_isNext 33 = .ok (.ireturn, 1) := by decide +kernel
theorem dX12_holds_0 : decode cX12_holds 0 = .ok (.aload_n 0, 1) := by decide +kernel
theorem dX12_holds_1 : decode cX12_holds 1 = .ok (.invokevirtual 165, 3) := by decide +kernel
theorem dX12_holds_4 : decode cX12_holds 4 = .ok (.istore 5, 2) := by decide +kernel
theorem dX12_holds_6 : decode cX12_holds 6 = .ok (.iload_n 2, 1) := by decide +kernel
theorem dX12_holds_7 : decode cX12_holds 7 = .ok (.iconst (-1), 1) := by decide +kernel
theorem dX12_holds_8 : decode cX12_holds 8 = .ok (.if_icmp .eq 8, 3) := by decide +kernel
theorem dX12_holds_11 : decode cX12_holds 11 = .ok (.iload_n 1, 1) := by decide +kernel
theorem dX12_holds_12 : decode cX12_holds 12 = .ok (.iload_n 2, 1) := by decide +kernel
theorem dX12_holds_13 : decode cX12_holds 13 = .ok (.if_icmp .ge 7, 3) := by decide +kernel
theorem dX12_holds_16 : decode cX12_holds 16 = .ok (.iload_n 3, 1) := by decide +kernel
theorem dX12_holds_17 : decode cX12_holds 17 = .ok (.goto 5, 3) := by decide +kernel
theorem dX12_holds_20 : decode cX12_holds 20 = .ok (.iload 4, 2) := by decide +kernel
theorem dX12_holds_22 : decode cX12_holds 22 = .ok (.istore 6, 2) := by decide +kernel
theorem dX12_holds_24 : decode cX12_holds 24 = .ok (.iload_n 2, 1) := by decide +kernel
theorem dX12_holds_25 : decode cX12_holds 25 = .ok (.iconst (-1), 1) := by decide +kernel
theorem dX12_holds_26 : decode cX12_holds 26 = .ok (.if_icmp .eq 8, 3) := by decide +kernel
theorem dX12_holds_29 : decode cX12_holds 29 = .ok (.iload_n 1, 1) := by decide +kernel
theorem dX12_holds_30 : decode cX12_holds 30 = .ok (.iload_n 2, 1) := by decide +kernel
theorem dX12_holds_31 : decode cX12_holds 31 = .ok (.if_icmp .ge 8, 3) := by decide +kernel
theorem dX12_holds_34 : decode cX12_holds 34 = .ok (.iload 4, 2) := by decide +kernel
theorem dX12_holds_36 : decode cX12_holds 36 = .ok (.goto 4, 3) := by decide +kernel
theorem dX12_holds_39 : decode cX12_holds 39 = .ok (.iload_n 3, 1) := by decide +kernel
theorem dX12_holds_40 : decode cX12_holds 40 = .ok (.istore 7, 2) := by decide +kernel
theorem dX12_holds_42 : decode cX12_holds 42 = .ok (.iload 5, 2) := by decide +kernel
theorem dX12_holds_44 : decode cX12_holds 44 = .ok (.aload_n 0, 1) := by decide +kernel
theorem dX12_holds_45 : decode cX12_holds 45 = .ok (.getfield 175, 3) := by decide +kernel
theorem dX12_holds_48 : decode cX12_holds 48 = .ok (.if_icmp .lt 39, 3) := by decide +kernel
theorem dX12_holds_51 : decode cX12_holds 51 = .ok (.iload 5, 2) := by decide +kernel
theorem dX12_holds_53 : decode cX12_holds 53 = .ok (.aload_n 0, 1) := by decide +kernel
theorem dX12_holds_54 : decode cX12_holds 54 = .ok (.getfield 175, 3) := by decide +kernel
theorem dX12_holds_57 : decode cX12_holds 57 = .ok (.if_icmp .ne 31, 3) := by decide +kernel
theorem dX12_holds_60 : decode cX12_holds 60 = .ok (.iload 6, 2) := by decide +kernel
theorem dX12_holds_62 : decode cX12_holds 62 = .ok (.aload_n 0, 1) := by decide +kernel
theorem dX12_holds_63 : decode cX12_holds 63 = .ok (.getfield 178, 3) := by decide +kernel
theorem dX12_holds_66 : decode cX12_holds 66 = .ok (.if_icmp .gt 21, 3) := by decide +kernel
theorem dX12_holds_69 : decode cX12_holds 69 = .ok (.iload 6, 2) := by decide +kernel
theorem dX12_holds_71 : decode cX12_holds 71 = .ok (.aload_n 0, 1) := by decide +kernel
theorem dX12_holds_72 : decode cX12_holds 72 = .ok (.getfield 178, 3) := by decide +kernel
theorem dX12_holds_75 : decode cX12_holds 75 = .ok (.if_icmp .ne 13, 3) := by decide +kernel
theorem dX12_holds_78 : decode cX12_holds 78 = .ok (.iload 7, 2) := by decide +kernel
theorem dX12_holds_80 : decode cX12_holds 80 = .ok (.aload_n 0, 1) := by decide +kernel
theorem dX12_holds_81 : decode cX12_holds 81 = .ok (.getfield 181, 3) := by decide +kernel
theorem dX12_holds_84 : decode cX12_holds 84 = .ok (.if_icmp .lt 4, 3) := by decide +kernel
theorem dX12_holds_87 : decode cX12_holds 87 = .ok (.return_, 1) := by decide +kernel
theorem dX12_holds_88 : decode cX12_holds 88 = .ok (.aload_n 0, 1) := by decide +kernel
theorem dX12_holds_89 : decode cX12_holds 89 = .ok (.iload 5, 2) := by decide +kernel
theorem dX12_holds_91 : decode cX12_holds 91 = .ok (.putfield 175, 3) := by decide +kernel
theorem dX12_holds_94 : decode cX12_holds 94 = .ok (.aload_n 0, 1) := by decide +kernel
theorem dX12_holds_95 : decode cX12_holds 95 = .ok (.iload 6, 2) := by decide +kernel
theorem dX12_holds_97 : decode cX12_holds 97 = .ok (.putfield 178, 3) := by decide +kernel
theorem dX12_holds_100 : decode cX12_holds 100 = .ok (.aload_n 0, 1) := by decide +kernel
theorem dX12_holds_101 : decode cX12_holds 101 = .ok (.iload 7, 2) := by decide +kernel
theorem dX12_holds_103 : decode cX12_holds 103 = .ok (.putfield 181, 3) := by decide +kernel
theorem dX12_holds_106 : decode cX12_holds 106 = .ok (.return_, 1) := by decide +kernel
theorem dX12_tries_0 : decode cX12_tries 0 = .ok (.aload_n 0, 1) := by decide +kernel
theorem dX12_tries_1 : decode cX12_tries 1 = .ok (.iconst (-1), 1) := by decide +kernel
theorem dX12_tries_2 : decode cX12_tries 2 = .ok (.putfield 175, 3) := by decide +kernel
theorem dX12_tries_5 : decode cX12_tries 5 = .ok (.aload_n 0, 1) := by decide +kernel
theorem dX12_tries_6 : decode cX12_tries 6 = .ok (.iconst 0, 1) := by decide +kernel
theorem dX12_tries_7 : decode cX12_tries 7 = .ok (.putfield 178, 3) := by decide +kernel
theorem dX12_tries_10 : decode cX12_tries 10 = .ok (.aload_n 0, 1) := by decide +kernel
theorem dX12_tries_11 : decode cX12_tries 11 = .ok (.iconst 0, 1) := by decide +kernel
theorem dX12_tries_12 : decode cX12_tries 12 = .ok (.putfield 181, 3) := by decide +kernel
theorem dX12_tries_15 : decode cX12_tries 15 = .ok (.aload_n 0, 1) := by decide +kernel
theorem dX12_tries_16 : decode cX12_tries 16 = .ok (.invokevirtual 184, 3) := by decide +kernel
theorem dX12_tries_19 : decode cX12_tries 19 = .ok (.iconst 0, 1) := by decide +kernel
theorem dX12_tries_20 : decode cX12_tries 20 = .ok (.istore_n 3, 1) := by decide +kernel
theorem dX12_tries_21 : decode cX12_tries 21 = .ok (.iconst 0, 1) := by decide +kernel
theorem dX12_tries_22 : decode cX12_tries 22 = .ok (.istore 4, 2) := by decide +kernel
theorem dX12_tries_24 : decode cX12_tries 24 = .ok (.iload 4, 2) := by decide +kernel
theorem dX12_tries_26 : decode cX12_tries 26 = .ok (.sipush 1344, 3) := by decide +kernel
theorem dX12_tries_29 : decode cX12_tries 29 = .ok (.if_icmp .ge 119, 3) := by decide +kernel
theorem dX12_tries_32 : decode cX12_tries 32 = .ok (.iload 4, 2) := by decide +kernel
theorem dX12_tries_34 : decode cX12_tries 34 = .ok (.invokestatic 187, 3) := by decide +kernel
theorem dX12_tries_37 : decode cX12_tries 37 = .ok (.ifCond .ne 6, 3) := by decide +kernel
theorem dX12_tries_40 : decode cX12_tries 40 = .ok (.goto 102, 3) := by decide +kernel
theorem dX12_tries_43 : decode cX12_tries 43 = .ok (.aload_n 0, 1) := by decide +kernel
theorem dX12_tries_44 : decode cX12_tries 44 = .ok (.getfield 29, 3) := by decide +kernel
theorem dX12_tries_47 : decode cX12_tries 47 = .ok (.iload_n 1, 1) := by decide +kernel
theorem dX12_tries_48 : decode cX12_tries 48 = .ok (.iload 4, 2) := by decide +kernel
theorem dX12_tries_50 : decode cX12_tries 50 = .ok (.invokestatic 169, 3) := by decide +kernel
theorem dX12_tries_53 : decode cX12_tries 53 = .ok (.iastore, 1) := by decide +kernel
theorem dX12_tries_54 : decode cX12_tries 54 = .ok (.aload_n 0, 1) := by decide +kernel
theorem dX12_tries_55 : decode cX12_tries 55 = .ok (.getfield 32, 3) := by decide +kernel
theorem dX12_tries_58 : decode cX12_tries 58 = .ok (.iload_n 1, 1) := by decide +kernel
theorem dX12_tries_59 : decode cX12_tries 59 = .ok (.iload 4, 2) := by decide +kernel
theorem dX12_tries_61 : decode cX12_tries 61 = .ok (.invokestatic 172, 3) := by decide +kernel
theorem dX12_tries_64 : decode cX12_tries 64 = .ok (.iastore, 1) := by decide +kernel
theorem dX12_tries_65 : decode cX12_tries 65 = .ok (.aload_n 0, 1) := by decide +kernel
theorem dX12_tries_66 : decode cX12_tries 66 = .ok (.iload_n 1, 1) := by decide +kernel
theorem dX12_tries_67 : decode cX12_tries 67 = .ok (.invokevirtual 190, 3) := by decide +kernel
theorem dX12_tries_70 : decode cX12_tries 70 = .ok (.istore 5, 2) := by decide +kernel
theorem dX12_tries_72 : decode cX12_tries 72 = .ok (.iload 5, 2) := by decide +kernel
theorem dX12_tries_74 : decode cX12_tries 74 = .ok (.ifCond .eq 68, 3) := by decide +kernel
theorem dX12_tries_77 : decode cX12_tries 77 = .ok (.iload_n 2, 1) := by decide +kernel
theorem dX12_tries_78 : decode cX12_tries 78 = .ok (.iconst (-1), 1) := by decide +kernel
theorem dX12_tries_79 : decode cX12_tries 79 = .ok (.if_icmp .ne 12, 3) := by decide +kernel
theorem dX12_tries_82 : decode cX12_tries 82 = .ok (.iload 5, 2) := by decide +kernel
theorem dX12_tries_84 : decode cX12_tries 84 = .ok (.iconst 2, 1) := by decide +kernel
theorem dX12_tries_85 : decode cX12_tries 85 = .ok (.if_icmp .ge 6, 3) := by decide +kernel
theorem dX12_tries_88 : decode cX12_tries 88 = .ok (.goto 54, 3) := by decide +kernel
theorem dX12_tries_91 : decode cX12_tries 91 = .ok (.aload_n 0, 1) := by decide +kernel
theorem dX12_tries_92 : decode cX12_tries 92 = .ok (.getfield 26, 3) := by decide +kernel
theorem dX12_tries_95 : decode cX12_tries 95 = .ok (.iload_n 1, 1) := by decide +kernel
theorem dX12_tries_96 : decode cX12_tries 96 = .ok (.iconst 1, 1) := by decide +kernel
theorem dX12_tries_97 : decode cX12_tries 97 = .ok (.bastore, 1) := by decide +kernel
theorem dX12_tries_98 : decode cX12_tries 98 = .ok (.iload_n 2, 1) := by decide +kernel
theorem dX12_tries_99 : decode cX12_tries 99 = .ok (.iconst (-1), 1) := by decide +kernel
theorem dX12_tries_100 : decode cX12_tries 100 = .ok (.if_icmp .eq 16, 3) := by decide +kernel
theorem dX12_tries_103 : decode cX12_tries 103 = .ok (.aload_n 0, 1) := by decide +kernel
theorem dX12_tries_104 : decode cX12_tries 104 = .ok (.iload_n 1, 1) := by decide +kernel
theorem dX12_tries_105 : decode cX12_tries 105 = .ok (.iload_n 2, 1) := by decide +kernel
theorem dX12_tries_106 : decode cX12_tries 106 = .ok (.iload 4, 2) := by decide +kernel
theorem dX12_tries_108 : decode cX12_tries 108 = .ok (.iload 5, 2) := by decide +kernel
theorem dX12_tries_110 : decode cX12_tries 110 = .ok (.invokevirtual 193, 3) := by decide +kernel
theorem dX12_tries_113 : decode cX12_tries 113 = .ok (.goto 22, 3) := by decide +kernel
theorem dX12_tries_116 : decode cX12_tries 116 = .ok (.aload_n 0, 1) := by decide +kernel
theorem dX12_tries_117 : decode cX12_tries 117 = .ok (.invokevirtual 149, 3) := by decide +kernel
theorem dX12_tries_120 : decode cX12_tries 120 = .ok (.ifCond .eq 15, 3) := by decide +kernel
theorem dX12_tries_123 : decode cX12_tries 123 = .ok (.iinc 3 1, 3) := by decide +kernel
theorem dX12_tries_126 : decode cX12_tries 126 = .ok (.aload_n 0, 1) := by decide +kernel
theorem dX12_tries_127 : decode cX12_tries 127 = .ok (.iload_n 1, 1) := by decide +kernel
theorem dX12_tries_128 : decode cX12_tries 128 = .ok (.iload_n 2, 1) := by decide +kernel
theorem dX12_tries_129 : decode cX12_tries 129 = .ok (.iload 4, 2) := by decide +kernel
theorem dX12_tries_131 : decode cX12_tries 131 = .ok (.iconst 0, 1) := by decide +kernel
theorem dX12_tries_132 : decode cX12_tries 132 = .ok (.invokevirtual 197, 3) := by decide +kernel
theorem dX12_tries_135 : decode cX12_tries 135 = .ok (.aload_n 0, 1) := by decide +kernel
theorem dX12_tries_136 : decode cX12_tries 136 = .ok (.getfield 26, 3) := by decide +kernel
theorem dX12_tries_139 : decode cX12_tries 139 = .ok (.iload_n 1, 1) := by decide +kernel
theorem dX12_tries_140 : decode cX12_tries 140 = .ok (.iconst 0, 1) := by decide +kernel
theorem dX12_tries_141 : decode cX12_tries 141 = .ok (.bastore, 1) := by decide +kernel
theorem dX12_tries_142 : decode cX12_tries 142 = .ok (.iinc 4 1, 3) := by decide +kernel
theorem dX12_tries_145 : decode cX12_tries 145 = .ok (.goto (-121), 3) := by decide +kernel
theorem dX12_tries_148 : decode cX12_tries 148 = .ok (.iload_n 3, 1) := by decide +kernel
theorem dX12_tries_149 : decode cX12_tries 149 = .ok (.ireturn, 1) := by decide +kernel
theorem dX12_seconds_0 : decode cX12_seconds 0 = .ok (.iconst 0, 1) := by decide +kernel
theorem dX12_seconds_1 : decode cX12_seconds 1 = .ok (.istore 5, 2) := by decide +kernel
theorem dX12_seconds_3 : decode cX12_seconds 3 = .ok (.iload 5, 2) := by decide +kernel
theorem dX12_seconds_5 : decode cX12_seconds 5 = .ok (.sipush 1344, 3) := by decide +kernel
theorem dX12_seconds_8 : decode cX12_seconds 8 = .ok (.if_icmp .ge 124, 3) := by decide +kernel
theorem dX12_seconds_11 : decode cX12_seconds 11 = .ok (.iload 5, 2) := by decide +kernel
theorem dX12_seconds_13 : decode cX12_seconds 13 = .ok (.invokestatic 187, 3) := by decide +kernel
theorem dX12_seconds_16 : decode cX12_seconds 16 = .ok (.ifCond .ne 6, 3) := by decide +kernel
theorem dX12_seconds_19 : decode cX12_seconds 19 = .ok (.goto 107, 3) := by decide +kernel
theorem dX12_seconds_22 : decode cX12_seconds 22 = .ok (.aload_n 0, 1) := by decide +kernel
theorem dX12_seconds_23 : decode cX12_seconds 23 = .ok (.getfield 29, 3) := by decide +kernel
theorem dX12_seconds_26 : decode cX12_seconds 26 = .ok (.iload_n 2, 1) := by decide +kernel
theorem dX12_seconds_27 : decode cX12_seconds 27 = .ok (.iload 5, 2) := by decide +kernel
theorem dX12_seconds_29 : decode cX12_seconds 29 = .ok (.invokestatic 169, 3) := by decide +kernel
theorem dX12_seconds_32 : decode cX12_seconds 32 = .ok (.iastore, 1) := by decide +kernel
theorem dX12_seconds_33 : decode cX12_seconds 33 = .ok (.aload_n 0, 1) := by decide +kernel
theorem dX12_seconds_34 : decode cX12_seconds 34 = .ok (.getfield 32, 3) := by decide +kernel
theorem dX12_seconds_37 : decode cX12_seconds 37 = .ok (.iload_n 2, 1) := by decide +kernel
theorem dX12_seconds_38 : decode cX12_seconds 38 = .ok (.iload 5, 2) := by decide +kernel
theorem dX12_seconds_40 : decode cX12_seconds 40 = .ok (.invokestatic 172, 3) := by decide +kernel
theorem dX12_seconds_43 : decode cX12_seconds 43 = .ok (.iastore, 1) := by decide +kernel
theorem dX12_seconds_44 : decode cX12_seconds 44 = .ok (.aload_n 0, 1) := by decide +kernel
theorem dX12_seconds_45 : decode cX12_seconds 45 = .ok (.iload_n 2, 1) := by decide +kernel
theorem dX12_seconds_46 : decode cX12_seconds 46 = .ok (.invokevirtual 190, 3) := by decide +kernel
theorem dX12_seconds_49 : decode cX12_seconds 49 = .ok (.istore 6, 2) := by decide +kernel
theorem dX12_seconds_51 : decode cX12_seconds 51 = .ok (.iload 6, 2) := by decide +kernel
theorem dX12_seconds_53 : decode cX12_seconds 53 = .ok (.ifCond .eq 73, 3) := by decide +kernel
theorem dX12_seconds_56 : decode cX12_seconds 56 = .ok (.iload 4, 2) := by decide +kernel
theorem dX12_seconds_58 : decode cX12_seconds 58 = .ok (.iconst 2, 1) := by decide +kernel
theorem dX12_seconds_59 : decode cX12_seconds 59 = .ok (.if_icmp .ge 12, 3) := by decide +kernel
theorem dX12_seconds_62 : decode cX12_seconds 62 = .ok (.iload 6, 2) := by decide +kernel
theorem dX12_seconds_64 : decode cX12_seconds 64 = .ok (.iconst 2, 1) := by decide +kernel
theorem dX12_seconds_65 : decode cX12_seconds 65 = .ok (.if_icmp .ge 6, 3) := by decide +kernel
theorem dX12_seconds_68 : decode cX12_seconds 68 = .ok (.goto 58, 3) := by decide +kernel
theorem dX12_seconds_71 : decode cX12_seconds 71 = .ok (.aload_n 0, 1) := by decide +kernel
theorem dX12_seconds_72 : decode cX12_seconds 72 = .ok (.getfield 26, 3) := by decide +kernel
theorem dX12_seconds_75 : decode cX12_seconds 75 = .ok (.iload_n 2, 1) := by decide +kernel
theorem dX12_seconds_76 : decode cX12_seconds 76 = .ok (.iconst 1, 1) := by decide +kernel
theorem dX12_seconds_77 : decode cX12_seconds 77 = .ok (.bastore, 1) := by decide +kernel
theorem dX12_seconds_78 : decode cX12_seconds 78 = .ok (.aload_n 0, 1) := by decide +kernel
theorem dX12_seconds_79 : decode cX12_seconds 79 = .ok (.iload_n 1, 1) := by decide +kernel
theorem dX12_seconds_80 : decode cX12_seconds 80 = .ok (.iload_n 2, 1) := by decide +kernel
theorem dX12_seconds_81 : decode cX12_seconds 81 = .ok (.iload 4, 2) := by decide +kernel
theorem dX12_seconds_83 : decode cX12_seconds 83 = .ok (.iload 6, 2) := by decide +kernel
theorem dX12_seconds_85 : decode cX12_seconds 85 = .ok (.invokevirtual 200, 3) := by decide +kernel
theorem dX12_seconds_88 : decode cX12_seconds 88 = .ok (.ifCond .eq 14, 3) := by decide +kernel
theorem dX12_seconds_91 : decode cX12_seconds 91 = .ok (.aload_n 0, 1) := by decide +kernel
theorem dX12_seconds_92 : decode cX12_seconds 92 = .ok (.invokevirtual 149, 3) := by decide +kernel
theorem dX12_seconds_95 : decode cX12_seconds 95 = .ok (.ifCond .eq 7, 3) := by decide +kernel
theorem dX12_seconds_98 : decode cX12_seconds 98 = .ok (.iconst 1, 1) := by decide +kernel
theorem dX12_seconds_99 : decode cX12_seconds 99 = .ok (.goto 4, 3) := by decide +kernel
theorem dX12_seconds_102 : decode cX12_seconds 102 = .ok (.iconst 0, 1) := by decide +kernel
theorem dX12_seconds_103 : decode cX12_seconds 103 = .ok (.istore 7, 2) := by decide +kernel
theorem dX12_seconds_105 : decode cX12_seconds 105 = .ok (.iload 7, 2) := by decide +kernel
theorem dX12_seconds_107 : decode cX12_seconds 107 = .ok (.ifCond .eq 12, 3) := by decide +kernel
theorem dX12_seconds_110 : decode cX12_seconds 110 = .ok (.aload_n 0, 1) := by decide +kernel
theorem dX12_seconds_111 : decode cX12_seconds 111 = .ok (.iload_n 1, 1) := by decide +kernel
theorem dX12_seconds_112 : decode cX12_seconds 112 = .ok (.iload_n 2, 1) := by decide +kernel
theorem dX12_seconds_113 : decode cX12_seconds 113 = .ok (.iload_n 3, 1) := by decide +kernel
theorem dX12_seconds_114 : decode cX12_seconds 114 = .ok (.iload 5, 2) := by decide +kernel
theorem dX12_seconds_116 : decode cX12_seconds 116 = .ok (.invokevirtual 197, 3) := by decide +kernel
theorem dX12_seconds_119 : decode cX12_seconds 119 = .ok (.aload_n 0, 1) := by decide +kernel
theorem dX12_seconds_120 : decode cX12_seconds 120 = .ok (.getfield 26, 3) := by decide +kernel
theorem dX12_seconds_123 : decode cX12_seconds 123 = .ok (.iload_n 2, 1) := by decide +kernel
theorem dX12_seconds_124 : decode cX12_seconds 124 = .ok (.iconst 0, 1) := by decide +kernel
theorem dX12_seconds_125 : decode cX12_seconds 125 = .ok (.bastore, 1) := by decide +kernel
theorem dX12_seconds_126 : decode cX12_seconds 126 = .ok (.iinc 5 1, 3) := by decide +kernel
theorem dX12_seconds_129 : decode cX12_seconds 129 = .ok (.goto (-126), 3) := by decide +kernel
theorem dX12_seconds_132 : decode cX12_seconds 132 = .ok (.return_, 1) := by decide +kernel
theorem dX12_mayTouch_0 : decode cX12_mayTouch 0 = .ok (.iload_n 3, 1) := by decide +kernel
theorem dX12_mayTouch_1 : decode cX12_mayTouch 1 = .ok (.iconst 2, 1) := by decide +kernel
theorem dX12_mayTouch_2 : decode cX12_mayTouch 2 = .ok (.if_icmp .ne 11, 3) := by decide +kernel
theorem dX12_mayTouch_5 : decode cX12_mayTouch 5 = .ok (.iload 4, 2) := by decide +kernel
theorem dX12_mayTouch_7 : decode cX12_mayTouch 7 = .ok (.iconst 2, 1) := by decide +kernel
theorem dX12_mayTouch_8 : decode cX12_mayTouch 8 = .ok (.if_icmp .ne 5, 3) := by decide +kernel
theorem dX12_mayTouch_11 : decode cX12_mayTouch 11 = .ok (.iconst 1, 1) := by decide +kernel
theorem dX12_mayTouch_12 : decode cX12_mayTouch 12 = .ok (.ireturn, 1) := by decide +kernel
theorem dX12_mayTouch_13 : decode cX12_mayTouch 13 = .ok (.aload_n 0, 1) := by decide +kernel
theorem dX12_mayTouch_14 : decode cX12_mayTouch 14 = .ok (.iload_n 1, 1) := by decide +kernel
theorem dX12_mayTouch_15 : decode cX12_mayTouch 15 = .ok (.iload_n 2, 1) := by decide +kernel
theorem dX12_mayTouch_16 : decode cX12_mayTouch 16 = .ok (.invokevirtual 139, 3) := by decide +kernel
theorem dX12_mayTouch_19 : decode cX12_mayTouch 19 = .ok (.ifCond .ne 10, 3) := by decide +kernel
theorem dX12_mayTouch_22 : decode cX12_mayTouch 22 = .ok (.aload_n 0, 1) := by decide +kernel
theorem dX12_mayTouch_23 : decode cX12_mayTouch 23 = .ok (.invokevirtual 136, 3) := by decide +kernel
theorem dX12_mayTouch_26 : decode cX12_mayTouch 26 = .ok (.ifCond .ne 5, 3) := by decide +kernel
theorem dX12_mayTouch_29 : decode cX12_mayTouch 29 = .ok (.iconst 0, 1) := by decide +kernel
theorem dX12_mayTouch_30 : decode cX12_mayTouch 30 = .ok (.ireturn, 1) := by decide +kernel
theorem dX12_mayTouch_31 : decode cX12_mayTouch 31 = .ok (.aload_n 0, 1) := by decide +kernel
theorem dX12_mayTouch_32 : decode cX12_mayTouch 32 = .ok (.iload_n 1, 1) := by decide +kernel
theorem dX12_mayTouch_33 : decode cX12_mayTouch 33 = .ok (.iload_n 2, 1) := by decide +kernel
theorem dX12_mayTouch_34 : decode cX12_mayTouch 34 = .ok (.invokevirtual 158, 3) := by decide +kernel
theorem dX12_mayTouch_37 : decode cX12_mayTouch 37 = .ok (.ifCond .le 7, 3) := by decide +kernel
theorem dX12_mayTouch_40 : decode cX12_mayTouch 40 = .ok (.iconst 1, 1) := by decide +kernel
theorem dX12_mayTouch_41 : decode cX12_mayTouch 41 = .ok (.goto 4, 3) := by decide +kernel
theorem dX12_mayTouch_44 : decode cX12_mayTouch 44 = .ok (.iconst 0, 1) := by decide +kernel
theorem dX12_mayTouch_45 : decode cX12_mayTouch 45 = .ok (.ireturn, 1) := by decide +kernel
theorem dX12_mayJoin_0 : decode cX12_mayJoin 0 = .ok (.aload_n 0, 1) := by decide +kernel
theorem dX12_mayJoin_1 : decode cX12_mayJoin 1 = .ok (.iload_n 1, 1) := by decide +kernel
theorem dX12_mayJoin_2 : decode cX12_mayJoin 2 = .ok (.invokevirtual 81, 3) := by decide +kernel
theorem dX12_mayJoin_5 : decode cX12_mayJoin 5 = .ok (.ifCond .eq 16, 3) := by decide +kernel
theorem dX12_mayJoin_8 : decode cX12_mayJoin 8 = .ok (.aload_n 0, 1) := by decide +kernel
theorem dX12_mayJoin_9 : decode cX12_mayJoin 9 = .ok (.getfield 26, 3) := by decide +kernel
theorem dX12_mayJoin_12 : decode cX12_mayJoin 12 = .ok (.iload_n 1, 1) := by decide +kernel
theorem dX12_mayJoin_13 : decode cX12_mayJoin 13 = .ok (.baload, 1) := by decide +kernel
theorem dX12_mayJoin_14 : decode cX12_mayJoin 14 = .ok (.ifCond .ne 7, 3) := by decide +kernel
theorem dX12_mayJoin_17 : decode cX12_mayJoin 17 = .ok (.iconst 1, 1) := by decide +kernel
theorem dX12_mayJoin_18 : decode cX12_mayJoin 18 = .ok (.goto 4, 3) := by decide +kernel
theorem dX12_mayJoin_21 : decode cX12_mayJoin 21 = .ok (.iconst 0, 1) := by decide +kernel
theorem dX12_mayJoin_22 : decode cX12_mayJoin 22 = .ok (.ireturn, 1) := by decide +kernel
theorem dX12_join_0 : decode cX12_join 0 = .ok (.aload_n 0, 1) := by decide +kernel
theorem dX12_join_1 : decode cX12_join 1 = .ok (.iload_n 1, 1) := by decide +kernel
theorem dX12_join_2 : decode cX12_join 2 = .ok (.invokevirtual 204, 3) := by decide +kernel
theorem dX12_join_5 : decode cX12_join 5 = .ok (.ifCond .eq 28, 3) := by decide +kernel
theorem dX12_join_8 : decode cX12_join 8 = .ok (.iload_n 2, 1) := by decide +kernel
theorem dX12_join_9 : decode cX12_join 9 = .ok (.iconst (-1), 1) := by decide +kernel
theorem dX12_join_10 : decode cX12_join 10 = .ok (.if_icmp .eq 16, 3) := by decide +kernel
theorem dX12_join_13 : decode cX12_join 13 = .ok (.aload_n 0, 1) := by decide +kernel
theorem dX12_join_14 : decode cX12_join 14 = .ok (.iload_n 2, 1) := by decide +kernel
theorem dX12_join_15 : decode cX12_join 15 = .ok (.invokevirtual 204, 3) := by decide +kernel
theorem dX12_join_18 : decode cX12_join 18 = .ok (.ifCond .eq 15, 3) := by decide +kernel
theorem dX12_join_21 : decode cX12_join 21 = .ok (.iload_n 1, 1) := by decide +kernel
theorem dX12_join_22 : decode cX12_join 22 = .ok (.iload_n 2, 1) := by decide +kernel
theorem dX12_join_23 : decode cX12_join 23 = .ok (.if_icmp .eq 10, 3) := by decide +kernel
theorem dX12_join_26 : decode cX12_join 26 = .ok (.aload_n 0, 1) := by decide +kernel
theorem dX12_join_27 : decode cX12_join 27 = .ok (.invokevirtual 207, 3) := by decide +kernel
theorem dX12_join_30 : decode cX12_join 30 = .ok (.ifCond .ne 5, 3) := by decide +kernel
theorem dX12_join_33 : decode cX12_join 33 = .ok (.iconst (-1), 1) := by decide +kernel
theorem dX12_join_34 : decode cX12_join 34 = .ok (.ireturn, 1) := by decide +kernel
theorem dX12_join_35 : decode cX12_join 35 = .ok (.aload_n 0, 1) := by decide +kernel
theorem dX12_join_36 : decode cX12_join 36 = .ok (.iload_n 1, 1) := by decide +kernel
theorem dX12_join_37 : decode cX12_join 37 = .ok (.iload_n 2, 1) := by decide +kernel
theorem dX12_join_38 : decode cX12_join 38 = .ok (.invokevirtual 210, 3) := by decide +kernel
theorem dX12_join_41 : decode cX12_join 41 = .ok (.pop, 1) := by decide +kernel
theorem dX12_join_42 : decode cX12_join 42 = .ok (.aload_n 0, 1) := by decide +kernel
theorem dX12_join_43 : decode cX12_join 43 = .ok (.getfield 175, 3) := by decide +kernel
theorem dX12_join_46 : decode cX12_join 46 = .ok (.iconst (-1), 1) := by decide +kernel
theorem dX12_join_47 : decode cX12_join 47 = .ok (.if_icmp .ne 6, 3) := by decide +kernel
theorem dX12_join_50 : decode cX12_join 50 = .ok (.bipush (-2), 2) := by decide +kernel
theorem dX12_join_52 : decode cX12_join 52 = .ok (.ireturn, 1) := by decide +kernel
theorem dX12_join_53 : decode cX12_join 53 = .ok (.iload_n 2, 1) := by decide +kernel
theorem dX12_join_54 : decode cX12_join 54 = .ok (.iconst (-1), 1) := by decide +kernel
theorem dX12_join_55 : decode cX12_join 55 = .ok (.if_icmp .eq 12, 3) := by decide +kernel
theorem dX12_join_58 : decode cX12_join 58 = .ok (.iload_n 2, 1) := by decide +kernel
theorem dX12_join_59 : decode cX12_join 59 = .ok (.iload_n 1, 1) := by decide +kernel
theorem dX12_join_60 : decode cX12_join 60 = .ok (.if_icmp .ge 7, 3) := by decide +kernel
theorem dX12_join_63 : decode cX12_join 63 = .ok (.iload_n 2, 1) := by decide +kernel
theorem dX12_join_64 : decode cX12_join 64 = .ok (.goto 4, 3) := by decide +kernel
theorem dX12_join_67 : decode cX12_join 67 = .ok (.iload_n 1, 1) := by decide +kernel
theorem dX12_join_68 : decode cX12_join 68 = .ok (.istore_n 3, 1) := by decide +kernel
theorem dX12_join_69 : decode cX12_join 69 = .ok (.aload_n 0, 1) := by decide +kernel
theorem dX12_join_70 : decode cX12_join 70 = .ok (.iload_n 3, 1) := by decide +kernel
theorem dX12_join_71 : decode cX12_join 71 = .ok (.aload_n 0, 1) := by decide +kernel
theorem dX12_join_72 : decode cX12_join 72 = .ok (.getfield 178, 3) := by decide +kernel
theorem dX12_join_75 : decode cX12_join 75 = .ok (.invokestatic 169, 3) := by decide +kernel
theorem dX12_join_78 : decode cX12_join 78 = .ok (.aload_n 0, 1) := by decide +kernel
theorem dX12_join_79 : decode cX12_join 79 = .ok (.getfield 178, 3) := by decide +kernel
theorem dX12_join_82 : decode cX12_join 82 = .ok (.invokestatic 172, 3) := by decide +kernel
theorem dX12_join_85 : decode cX12_join 85 = .ok (.invokevirtual 145, 3) := by decide +kernel
theorem dX12_join_88 : decode cX12_join 88 = .ok (.iload_n 2, 1) := by decide +kernel
theorem dX12_join_89 : decode cX12_join 89 = .ok (.iconst (-1), 1) := by decide +kernel
theorem dX12_join_90 : decode cX12_join 90 = .ok (.if_icmp .eq 31, 3) := by decide +kernel
theorem dX12_join_93 : decode cX12_join 93 = .ok (.aload_n 0, 1) := by decide +kernel
theorem dX12_join_94 : decode cX12_join 94 = .ok (.iload_n 3, 1) := by decide +kernel
theorem dX12_join_95 : decode cX12_join 95 = .ok (.iload_n 1, 1) := by decide +kernel
theorem dX12_join_96 : decode cX12_join 96 = .ok (.if_icmp .ne 7, 3) := by decide +kernel
theorem dX12_join_99 : decode cX12_join 99 = .ok (.iload_n 2, 1) := by decide +kernel
theorem dX12_join_100 : decode cX12_join 100 = .ok (.goto 4, 3) := by decide +kernel
theorem dX12_join_103 : decode cX12_join 103 = .ok (.iload_n 1, 1) := by decide +kernel
theorem dX12_join_104 : decode cX12_join 104 = .ok (.aload_n 0, 1) := by decide +kernel
theorem dX12_join_105 : decode cX12_join 105 = .ok (.getfield 181, 3) := by decide +kernel
theorem dX12_join_108 : decode cX12_join 108 = .ok (.invokestatic 169, 3) := by decide +kernel
theorem dX12_join_111 : decode cX12_join 111 = .ok (.aload_n 0, 1) := by decide +kernel
theorem dX12_join_112 : decode cX12_join 112 = .ok (.getfield 181, 3) := by decide +kernel
theorem dX12_join_115 : decode cX12_join 115 = .ok (.invokestatic 172, 3) := by decide +kernel
theorem dX12_join_118 : decode cX12_join 118 = .ok (.invokevirtual 145, 3) := by decide +kernel
theorem dX12_join_121 : decode cX12_join 121 = .ok (.aload_n 0, 1) := by decide +kernel
theorem dX12_join_122 : decode cX12_join 122 = .ok (.getfield 175, 3) := by decide +kernel
theorem dX12_join_125 : decode cX12_join 125 = .ok (.ireturn, 1) := by decide +kernel
theorem dX12_joins_0 : decode cX12_joins 0 = .ok (.aload_n 0, 1) := by decide +kernel
theorem dX12_joins_1 : decode cX12_joins 1 = .ok (.iload_n 1, 1) := by decide +kernel
theorem dX12_joins_2 : decode cX12_joins 2 = .ok (.invokevirtual 204, 3) := by decide +kernel
theorem dX12_joins_5 : decode cX12_joins 5 = .ok (.ifCond .eq 19, 3) := by decide +kernel
theorem dX12_joins_8 : decode cX12_joins 8 = .ok (.aload_n 0, 1) := by decide +kernel
theorem dX12_joins_9 : decode cX12_joins 9 = .ok (.invokevirtual 207, 3) := by decide +kernel
theorem dX12_joins_12 : decode cX12_joins 12 = .ok (.ifCond .eq 12, 3) := by decide +kernel
theorem dX12_joins_15 : decode cX12_joins 15 = .ok (.aload_n 0, 1) := by decide +kernel
theorem dX12_joins_16 : decode cX12_joins 16 = .ok (.iload_n 1, 1) := by decide +kernel
theorem dX12_joins_17 : decode cX12_joins 17 = .ok (.iconst (-1), 1) := by decide +kernel
theorem dX12_joins_18 : decode cX12_joins 18 = .ok (.invokevirtual 210, 3) := by decide +kernel
theorem dX12_joins_21 : decode cX12_joins 21 = .ok (.goto 4, 3) := by decide +kernel
theorem dX12_joins_24 : decode cX12_joins 24 = .ok (.iconst (-1), 1) := by decide +kernel
theorem dX12_joins_25 : decode cX12_joins 25 = .ok (.ireturn, 1) := by decide +kernel
theorem dX12_roll_0 : decode cX12_roll 0 = .ok (.iload_n 1, 1) := by decide +kernel
theorem dX12_roll_1 : decode cX12_roll 1 = .ok (.iconst 1, 1) := by decide +kernel
theorem dX12_roll_2 : decode cX12_roll 2 = .ok (.sipush 1000, 3) := by decide +kernel
theorem dX12_roll_5 : decode cX12_roll 5 = .ok (.invokestatic 69, 3) := by decide +kernel
theorem dX12_roll_8 : decode cX12_roll 8 = .ok (.ifCond .eq 13, 3) := by decide +kernel
theorem dX12_roll_11 : decode cX12_roll 11 = .ok (.iload_n 2, 1) := by decide +kernel
theorem dX12_roll_12 : decode cX12_roll 12 = .ok (.iconst 0, 1) := by decide +kernel
theorem dX12_roll_13 : decode cX12_roll 13 = .ok (.bipush 100, 2) := by decide +kernel
theorem dX12_roll_15 : decode cX12_roll 15 = .ok (.invokestatic 69, 3) := by decide +kernel
theorem dX12_roll_18 : decode cX12_roll 18 = .ok (.ifCond .ne 5, 3) := by decide +kernel
theorem dX12_roll_21 : decode cX12_roll 21 = .ok (.iconst (-1), 1) := by decide +kernel
theorem dX12_roll_22 : decode cX12_roll 22 = .ok (.ireturn, 1) := by decide +kernel
theorem dX12_roll_23 : decode cX12_roll 23 = .ok (.aload_n 0, 1) := by decide +kernel
theorem dX12_roll_24 : decode cX12_roll 24 = .ok (.getfield 59, 3) := by decide +kernel
theorem dX12_roll_27 : decode cX12_roll 27 = .ok (.iconst 0, 1) := by decide +kernel
theorem dX12_roll_28 : decode cX12_roll 28 = .ok (.iconst 0, 1) := by decide +kernel
theorem dX12_roll_29 : decode cX12_roll 29 = .ok (.iastore, 1) := by decide +kernel
theorem dX12_roll_30 : decode cX12_roll 30 = .ok (.aload_n 0, 1) := by decide +kernel
theorem dX12_roll_31 : decode cX12_roll 31 = .ok (.iconst 1, 1) := by decide +kernel
theorem dX12_roll_32 : decode cX12_roll 32 = .ok (.putfield 213, 3) := by decide +kernel
theorem dX12_roll_35 : decode cX12_roll 35 = .ok (.iload_n 1, 1) := by decide +kernel
theorem dX12_roll_36 : decode cX12_roll 36 = .ok (.istore_n 3, 1) := by decide +kernel
theorem dX12_roll_37 : decode cX12_roll 37 = .ok (.iload_n 3, 1) := by decide +kernel
theorem dX12_roll_38 : decode cX12_roll 38 = .ok (.ifCond .le 51, 3) := by decide +kernel
theorem dX12_roll_41 : decode cX12_roll 41 = .ok (.aload_n 0, 1) := by decide +kernel
theorem dX12_roll_42 : decode cX12_roll 42 = .ok (.getfield 213, 3) := by decide +kernel
theorem dX12_roll_45 : decode cX12_roll 45 = .ok (.bipush 40, 2) := by decide +kernel
theorem dX12_roll_47 : decode cX12_roll 47 = .ok (.if_icmp .ge 42, 3) := by decide +kernel
theorem dX12_roll_50 : decode cX12_roll 50 = .ok (.aload_n 0, 1) := by decide +kernel
theorem dX12_roll_51 : decode cX12_roll 51 = .ok (.getfield 59, 3) := by decide +kernel
theorem dX12_roll_54 : decode cX12_roll 54 = .ok (.aload_n 0, 1) := by decide +kernel
theorem dX12_roll_55 : decode cX12_roll 55 = .ok (.getfield 213, 3) := by decide +kernel
theorem dX12_roll_58 : decode cX12_roll 58 = .ok (.aload_n 0, 1) := by decide +kernel
theorem dX12_roll_59 : decode cX12_roll 59 = .ok (.getfield 59, 3) := by decide +kernel
theorem dX12_roll_62 : decode cX12_roll 62 = .ok (.aload_n 0, 1) := by decide +kernel
theorem dX12_roll_63 : decode cX12_roll 63 = .ok (.getfield 213, 3) := by decide +kernel
theorem dX12_roll_66 : decode cX12_roll 66 = .ok (.iconst 1, 1) := by decide +kernel
theorem dX12_roll_67 : decode cX12_roll 67 = .ok (.isub, 1) := by decide +kernel
theorem dX12_roll_68 : decode cX12_roll 68 = .ok (.iaload, 1) := by decide +kernel
theorem dX12_roll_69 : decode cX12_roll 69 = .ok (.iload_n 3, 1) := by decide +kernel
theorem dX12_roll_70 : decode cX12_roll 70 = .ok (.iadd, 1) := by decide +kernel
theorem dX12_roll_71 : decode cX12_roll 71 = .ok (.iastore, 1) := by decide +kernel
theorem dX12_roll_72 : decode cX12_roll 72 = .ok (.aload_n 0, 1) := by decide +kernel
theorem dX12_roll_73 : decode cX12_roll 73 = .ok (.dup, 1) := by decide +kernel
theorem dX12_roll_74 : decode cX12_roll 74 = .ok (.getfield 213, 3) := by decide +kernel
theorem dX12_roll_77 : decode cX12_roll 77 = .ok (.iconst 1, 1) := by decide +kernel
theorem dX12_roll_78 : decode cX12_roll 78 = .ok (.iadd, 1) := by decide +kernel
theorem dX12_roll_79 : decode cX12_roll 79 = .ok (.putfield 213, 3) := by decide +kernel
theorem dX12_roll_82 : decode cX12_roll 82 = .ok (.iload_n 3, 1) := by decide +kernel
theorem dX12_roll_83 : decode cX12_roll 83 = .ok (.iload_n 2, 1) := by decide +kernel
theorem dX12_roll_84 : decode cX12_roll 84 = .ok (.isub, 1) := by decide +kernel
theorem dX12_roll_85 : decode cX12_roll 85 = .ok (.istore_n 3, 1) := by decide +kernel
theorem dX12_roll_86 : decode cX12_roll 86 = .ok (.goto (-49), 3) := by decide +kernel
theorem dX12_roll_89 : decode cX12_roll 89 = .ok (.aload_n 0, 1) := by decide +kernel
theorem dX12_roll_90 : decode cX12_roll 90 = .ok (.getfield 213, 3) := by decide +kernel
theorem dX12_roll_93 : decode cX12_roll 93 = .ok (.ireturn, 1) := by decide +kernel
theorem dX12_hole_0 : decode cX12_hole 0 = .ok (.aload_n 0, 1) := by decide +kernel
theorem dX12_hole_1 : decode cX12_hole 1 = .ok (.iload_n 1, 1) := by decide +kernel
theorem dX12_hole_2 : decode cX12_hole 2 = .ok (.invokevirtual 81, 3) := by decide +kernel
theorem dX12_hole_5 : decode cX12_hole 5 = .ok (.ifCond .eq 56, 3) := by decide +kernel
theorem dX12_hole_8 : decode cX12_hole 8 = .ok (.iload_n 2, 1) := by decide +kernel
theorem dX12_hole_9 : decode cX12_hole 9 = .ok (.iconst 0, 1) := by decide +kernel
theorem dX12_hole_10 : decode cX12_hole 10 = .ok (.sipush 2000, 3) := by decide +kernel
theorem dX12_hole_13 : decode cX12_hole 13 = .ok (.invokestatic 69, 3) := by decide +kernel
theorem dX12_hole_16 : decode cX12_hole 16 = .ok (.ifCond .eq 45, 3) := by decide +kernel
theorem dX12_hole_19 : decode cX12_hole 19 = .ok (.aload_n 0, 1) := by decide +kernel
theorem dX12_hole_20 : decode cX12_hole 20 = .ok (.getfield 35, 3) := by decide +kernel
theorem dX12_hole_23 : decode cX12_hole 23 = .ok (.iload_n 1, 1) := by decide +kernel
theorem dX12_hole_24 : decode cX12_hole 24 = .ok (.iaload, 1) := by decide +kernel
theorem dX12_hole_25 : decode cX12_hole 25 = .ok (.bipush 6, 2) := by decide +kernel
theorem dX12_hole_27 : decode cX12_hole 27 = .ok (.if_icmp .eq 34, 3) := by decide +kernel
theorem dX12_hole_30 : decode cX12_hole 30 = .ok (.aload_n 0, 1) := by decide +kernel
theorem dX12_hole_31 : decode cX12_hole 31 = .ok (.getfield 35, 3) := by decide +kernel
theorem dX12_hole_34 : decode cX12_hole 34 = .ok (.iload_n 1, 1) := by decide +kernel
theorem dX12_hole_35 : decode cX12_hole 35 = .ok (.iaload, 1) := by decide +kernel
theorem dX12_hole_36 : decode cX12_hole 36 = .ok (.ifCond .le 27, 3) := by decide +kernel
theorem dX12_hole_39 : decode cX12_hole 39 = .ok (.iload_n 2, 1) := by decide +kernel
theorem dX12_hole_40 : decode cX12_hole 40 = .ok (.aload_n 0, 1) := by decide +kernel
theorem dX12_hole_41 : decode cX12_hole 41 = .ok (.getfield 38, 3) := by decide +kernel
theorem dX12_hole_44 : decode cX12_hole 44 = .ok (.bipush 6, 2) := by decide +kernel
theorem dX12_hole_46 : decode cX12_hole 46 = .ok (.iload_n 1, 1) := by decide +kernel
theorem dX12_hole_47 : decode cX12_hole 47 = .ok (.imul, 1) := by decide +kernel
theorem dX12_hole_48 : decode cX12_hole 48 = .ok (.aload_n 0, 1) := by decide +kernel
theorem dX12_hole_49 : decode cX12_hole 49 = .ok (.getfield 35, 3) := by decide +kernel
theorem dX12_hole_52 : decode cX12_hole 52 = .ok (.iload_n 1, 1) := by decide +kernel
theorem dX12_hole_53 : decode cX12_hole 53 = .ok (.iaload, 1) := by decide +kernel
theorem dX12_hole_54 : decode cX12_hole 54 = .ok (.iadd, 1) := by decide +kernel
theorem dX12_hole_55 : decode cX12_hole 55 = .ok (.iconst 1, 1) := by decide +kernel
theorem dX12_hole_56 : decode cX12_hole 56 = .ok (.isub, 1) := by decide +kernel
theorem dX12_hole_57 : decode cX12_hole 57 = .ok (.iaload, 1) := by decide +kernel
theorem dX12_hole_58 : decode cX12_hole 58 = .ok (.if_icmp .gt 5, 3) := by decide +kernel
theorem dX12_hole_61 : decode cX12_hole 61 = .ok (.iconst (-1), 1) := by decide +kernel
theorem dX12_hole_62 : decode cX12_hole 62 = .ok (.ireturn, 1) := by decide +kernel
theorem dX12_hole_63 : decode cX12_hole 63 = .ok (.aload_n 0, 1) := by decide +kernel
theorem dX12_hole_64 : decode cX12_hole 64 = .ok (.getfield 38, 3) := by decide +kernel
theorem dX12_hole_67 : decode cX12_hole 67 = .ok (.bipush 6, 2) := by decide +kernel
theorem dX12_hole_69 : decode cX12_hole 69 = .ok (.iload_n 1, 1) := by decide +kernel
theorem dX12_hole_70 : decode cX12_hole 70 = .ok (.imul, 1) := by decide +kernel
theorem dX12_hole_71 : decode cX12_hole 71 = .ok (.aload_n 0, 1) := by decide +kernel
theorem dX12_hole_72 : decode cX12_hole 72 = .ok (.getfield 35, 3) := by decide +kernel
theorem dX12_hole_75 : decode cX12_hole 75 = .ok (.iload_n 1, 1) := by decide +kernel
theorem dX12_hole_76 : decode cX12_hole 76 = .ok (.iaload, 1) := by decide +kernel
theorem dX12_hole_77 : decode cX12_hole 77 = .ok (.iadd, 1) := by decide +kernel
theorem dX12_hole_78 : decode cX12_hole 78 = .ok (.iload_n 2, 1) := by decide +kernel
theorem dX12_hole_79 : decode cX12_hole 79 = .ok (.iastore, 1) := by decide +kernel
theorem dX12_hole_80 : decode cX12_hole 80 = .ok (.aload_n 0, 1) := by decide +kernel
theorem dX12_hole_81 : decode cX12_hole 81 = .ok (.getfield 35, 3) := by decide +kernel
theorem dX12_hole_84 : decode cX12_hole 84 = .ok (.iload_n 1, 1) := by decide +kernel
theorem dX12_hole_85 : decode cX12_hole 85 = .ok (.dup2, 1) := by decide +kernel
theorem dX12_hole_86 : decode cX12_hole 86 = .ok (.iaload, 1) := by decide +kernel
theorem dX12_hole_87 : decode cX12_hole 87 = .ok (.iconst 1, 1) := by decide +kernel
theorem dX12_hole_88 : decode cX12_hole 88 = .ok (.iadd, 1) := by decide +kernel
theorem dX12_hole_89 : decode cX12_hole 89 = .ok (.iastore, 1) := by decide +kernel
theorem dX12_hole_90 : decode cX12_hole 90 = .ok (.aload_n 0, 1) := by decide +kernel
theorem dX12_hole_91 : decode cX12_hole 91 = .ok (.getfield 35, 3) := by decide +kernel
theorem dX12_hole_94 : decode cX12_hole 94 = .ok (.iload_n 1, 1) := by decide +kernel
theorem dX12_hole_95 : decode cX12_hole 95 = .ok (.iaload, 1) := by decide +kernel
theorem dX12_hole_96 : decode cX12_hole 96 = .ok (.ireturn, 1) := by decide +kernel
theorem dX12_stoodAt_0 : decode cX12_stoodAt 0 = .ok (.iconst 0, 1) := by decide +kernel
theorem dX12_stoodAt_1 : decode cX12_stoodAt 1 = .ok (.istore_n 3, 1) := by decide +kernel
theorem dX12_stoodAt_2 : decode cX12_stoodAt 2 = .ok (.iconst 0, 1) := by decide +kernel
theorem dX12_stoodAt_3 : decode cX12_stoodAt 3 = .ok (.istore 4, 2) := by decide +kernel
theorem dX12_stoodAt_5 : decode cX12_stoodAt 5 = .ok (.iload 4, 2) := by decide +kernel
theorem dX12_stoodAt_7 : decode cX12_stoodAt 7 = .ok (.aload_n 0, 1) := by decide +kernel
theorem dX12_stoodAt_8 : decode cX12_stoodAt 8 = .ok (.getfield 213, 3) := by decide +kernel
theorem dX12_stoodAt_11 : decode cX12_stoodAt 11 = .ok (.if_icmp .ge 91, 3) := by decide +kernel
theorem dX12_stoodAt_14 : decode cX12_stoodAt 14 = .ok (.aload_n 0, 1) := by decide +kernel
theorem dX12_stoodAt_15 : decode cX12_stoodAt 15 = .ok (.getfield 59, 3) := by decide +kernel
theorem dX12_stoodAt_18 : decode cX12_stoodAt 18 = .ok (.iload 4, 2) := by decide +kernel
theorem dX12_stoodAt_20 : decode cX12_stoodAt 20 = .ok (.iaload, 1) := by decide +kernel
theorem dX12_stoodAt_21 : decode cX12_stoodAt 21 = .ok (.iload_n 2, 1) := by decide +kernel
theorem dX12_stoodAt_22 : decode cX12_stoodAt 22 = .ok (.if_icmp .lt 74, 3) := by decide +kernel
theorem dX12_stoodAt_25 : decode cX12_stoodAt 25 = .ok (.aload_n 0, 1) := by decide +kernel
theorem dX12_stoodAt_26 : decode cX12_stoodAt 26 = .ok (.getfield 59, 3) := by decide +kernel
theorem dX12_stoodAt_29 : decode cX12_stoodAt 29 = .ok (.iload 4, 2) := by decide +kernel
theorem dX12_stoodAt_31 : decode cX12_stoodAt 31 = .ok (.iaload, 1) := by decide +kernel
theorem dX12_stoodAt_32 : decode cX12_stoodAt 32 = .ok (.iload_n 2, 1) := by decide +kernel
theorem dX12_stoodAt_33 : decode cX12_stoodAt 33 = .ok (.aload_n 0, 1) := by decide +kernel
theorem dX12_stoodAt_34 : decode cX12_stoodAt 34 = .ok (.getfield 38, 3) := by decide +kernel
theorem dX12_stoodAt_37 : decode cX12_stoodAt 37 = .ok (.bipush 6, 2) := by decide +kernel
theorem dX12_stoodAt_39 : decode cX12_stoodAt 39 = .ok (.iload_n 1, 1) := by decide +kernel
theorem dX12_stoodAt_40 : decode cX12_stoodAt 40 = .ok (.imul, 1) := by decide +kernel
theorem dX12_stoodAt_41 : decode cX12_stoodAt 41 = .ok (.aload_n 0, 1) := by decide +kernel
theorem dX12_stoodAt_42 : decode cX12_stoodAt 42 = .ok (.getfield 35, 3) := by decide +kernel
theorem dX12_stoodAt_45 : decode cX12_stoodAt 45 = .ok (.iload_n 1, 1) := by decide +kernel
theorem dX12_stoodAt_46 : decode cX12_stoodAt 46 = .ok (.iaload, 1) := by decide +kernel
theorem dX12_stoodAt_47 : decode cX12_stoodAt 47 = .ok (.iadd, 1) := by decide +kernel
theorem dX12_stoodAt_48 : decode cX12_stoodAt 48 = .ok (.iconst 1, 1) := by decide +kernel
theorem dX12_stoodAt_49 : decode cX12_stoodAt 49 = .ok (.isub, 1) := by decide +kernel
theorem dX12_stoodAt_50 : decode cX12_stoodAt 50 = .ok (.iaload, 1) := by decide +kernel
theorem dX12_stoodAt_51 : decode cX12_stoodAt 51 = .ok (.iadd, 1) := by decide +kernel
theorem dX12_stoodAt_52 : decode cX12_stoodAt 52 = .ok (.if_icmp .le 6, 3) := by decide +kernel
theorem dX12_stoodAt_55 : decode cX12_stoodAt 55 = .ok (.goto 41, 3) := by decide +kernel
theorem dX12_stoodAt_58 : decode cX12_stoodAt 58 = .ok (.iload_n 3, 1) := by decide +kernel
theorem dX12_stoodAt_59 : decode cX12_stoodAt 59 = .ok (.aload_n 0, 1) := by decide +kernel
theorem dX12_stoodAt_60 : decode cX12_stoodAt 60 = .ok (.getfield 35, 3) := by decide +kernel
theorem dX12_stoodAt_63 : decode cX12_stoodAt 63 = .ok (.iload_n 1, 1) := by decide +kernel
theorem dX12_stoodAt_64 : decode cX12_stoodAt 64 = .ok (.iaload, 1) := by decide +kernel
theorem dX12_stoodAt_65 : decode cX12_stoodAt 65 = .ok (.if_icmp .eq 26, 3) := by decide +kernel
theorem dX12_stoodAt_68 : decode cX12_stoodAt 68 = .ok (.aload_n 0, 1) := by decide +kernel
theorem dX12_stoodAt_69 : decode cX12_stoodAt 69 = .ok (.getfield 59, 3) := by decide +kernel
theorem dX12_stoodAt_72 : decode cX12_stoodAt 72 = .ok (.iload 4, 2) := by decide +kernel
theorem dX12_stoodAt_74 : decode cX12_stoodAt 74 = .ok (.iaload, 1) := by decide +kernel
theorem dX12_stoodAt_75 : decode cX12_stoodAt 75 = .ok (.iload_n 2, 1) := by decide +kernel
theorem dX12_stoodAt_76 : decode cX12_stoodAt 76 = .ok (.aload_n 0, 1) := by decide +kernel
theorem dX12_stoodAt_77 : decode cX12_stoodAt 77 = .ok (.getfield 38, 3) := by decide +kernel
theorem dX12_stoodAt_80 : decode cX12_stoodAt 80 = .ok (.bipush 6, 2) := by decide +kernel
theorem dX12_stoodAt_82 : decode cX12_stoodAt 82 = .ok (.iload_n 1, 1) := by decide +kernel
theorem dX12_stoodAt_83 : decode cX12_stoodAt 83 = .ok (.imul, 1) := by decide +kernel
theorem dX12_stoodAt_84 : decode cX12_stoodAt 84 = .ok (.iload_n 3, 1) := by decide +kernel
theorem dX12_stoodAt_85 : decode cX12_stoodAt 85 = .ok (.iadd, 1) := by decide +kernel
theorem dX12_stoodAt_86 : decode cX12_stoodAt 86 = .ok (.iaload, 1) := by decide +kernel
theorem dX12_stoodAt_87 : decode cX12_stoodAt 87 = .ok (.iadd, 1) := by decide +kernel
theorem dX12_stoodAt_88 : decode cX12_stoodAt 88 = .ok (.if_icmp .eq 5, 3) := by decide +kernel
theorem dX12_stoodAt_91 : decode cX12_stoodAt 91 = .ok (.iconst 0, 1) := by decide +kernel
theorem dX12_stoodAt_92 : decode cX12_stoodAt 92 = .ok (.ireturn, 1) := by decide +kernel
theorem dX12_stoodAt_93 : decode cX12_stoodAt 93 = .ok (.iinc 3 1, 3) := by decide +kernel
theorem dX12_stoodAt_96 : decode cX12_stoodAt 96 = .ok (.iinc 4 1, 3) := by decide +kernel
theorem dX12_stoodAt_99 : decode cX12_stoodAt 99 = .ok (.goto (-94), 3) := by decide +kernel
theorem dX12_stoodAt_102 : decode cX12_stoodAt 102 = .ok (.iload_n 2, 1) := by decide +kernel
theorem dX12_stoodAt_103 : decode cX12_stoodAt 103 = .ok (.ifCond .lt 17, 3) := by decide +kernel
theorem dX12_stoodAt_106 : decode cX12_stoodAt 106 = .ok (.iload_n 3, 1) := by decide +kernel
theorem dX12_stoodAt_107 : decode cX12_stoodAt 107 = .ok (.aload_n 0, 1) := by decide +kernel
theorem dX12_stoodAt_108 : decode cX12_stoodAt 108 = .ok (.getfield 35, 3) := by decide +kernel
theorem dX12_stoodAt_111 : decode cX12_stoodAt 111 = .ok (.iload_n 1, 1) := by decide +kernel
theorem dX12_stoodAt_112 : decode cX12_stoodAt 112 = .ok (.iaload, 1) := by decide +kernel
theorem dX12_stoodAt_113 : decode cX12_stoodAt 113 = .ok (.if_icmp .ne 7, 3) := by decide +kernel
theorem dX12_stoodAt_116 : decode cX12_stoodAt 116 = .ok (.iconst 1, 1) := by decide +kernel
theorem dX12_stoodAt_117 : decode cX12_stoodAt 117 = .ok (.goto 4, 3) := by decide +kernel
theorem dX12_stoodAt_120 : decode cX12_stoodAt 120 = .ok (.iconst 0, 1) := by decide +kernel
theorem dX12_stoodAt_121 : decode cX12_stoodAt 121 = .ok (.ireturn, 1) := by decide +kernel
theorem dX12_stoods_0 : decode cX12_stoods 0 = .ok (.aload_n 0, 1) := by decide +kernel
theorem dX12_stoods_1 : decode cX12_stoods 1 = .ok (.iconst 0, 1) := by decide +kernel
theorem dX12_stoods_2 : decode cX12_stoods 2 = .ok (.putfield 216, 3) := by decide +kernel
theorem dX12_stoods_5 : decode cX12_stoods 5 = .ok (.iconst (-1), 1) := by decide +kernel
theorem dX12_stoods_6 : decode cX12_stoods 6 = .ok (.istore_n 3, 1) := by decide +kernel
theorem dX12_stoods_7 : decode cX12_stoods 7 = .ok (.iconst 0, 1) := by decide +kernel
theorem dX12_stoods_8 : decode cX12_stoods 8 = .ok (.istore 4, 2) := by decide +kernel
theorem dX12_stoods_10 : decode cX12_stoods 10 = .ok (.iload 4, 2) := by decide +kernel
theorem dX12_stoods_12 : decode cX12_stoods 12 = .ok (.aload_n 0, 1) := by decide +kernel
theorem dX12_stoods_13 : decode cX12_stoods 13 = .ok (.getfield 213, 3) := by decide +kernel
theorem dX12_stoods_16 : decode cX12_stoods 16 = .ok (.if_icmp .ge 62, 3) := by decide +kernel
theorem dX12_stoods_19 : decode cX12_stoods 19 = .ok (.aload_n 0, 1) := by decide +kernel
theorem dX12_stoods_20 : decode cX12_stoods 20 = .ok (.getfield 59, 3) := by decide +kernel
theorem dX12_stoods_23 : decode cX12_stoods 23 = .ok (.iload 4, 2) := by decide +kernel
theorem dX12_stoods_25 : decode cX12_stoods 25 = .ok (.iaload, 1) := by decide +kernel
theorem dX12_stoods_26 : decode cX12_stoods 26 = .ok (.aload_n 0, 1) := by decide +kernel
theorem dX12_stoods_27 : decode cX12_stoods 27 = .ok (.getfield 38, 3) := by decide +kernel
theorem dX12_stoods_30 : decode cX12_stoods 30 = .ok (.bipush 6, 2) := by decide +kernel
theorem dX12_stoods_32 : decode cX12_stoods 32 = .ok (.iload_n 1, 1) := by decide +kernel
theorem dX12_stoods_33 : decode cX12_stoods 33 = .ok (.imul, 1) := by decide +kernel
theorem dX12_stoods_34 : decode cX12_stoods 34 = .ok (.iaload, 1) := by decide +kernel
theorem dX12_stoods_35 : decode cX12_stoods 35 = .ok (.isub, 1) := by decide +kernel
theorem dX12_stoods_36 : decode cX12_stoods 36 = .ok (.istore 5, 2) := by decide +kernel
theorem dX12_stoods_38 : decode cX12_stoods 38 = .ok (.aload_n 0, 1) := by decide +kernel
theorem dX12_stoods_39 : decode cX12_stoods 39 = .ok (.iload_n 1, 1) := by decide +kernel
theorem dX12_stoods_40 : decode cX12_stoods 40 = .ok (.iload 5, 2) := by decide +kernel
theorem dX12_stoods_42 : decode cX12_stoods 42 = .ok (.invokevirtual 219, 3) := by decide +kernel
theorem dX12_stoods_45 : decode cX12_stoods 45 = .ok (.ifCond .ne 6, 3) := by decide +kernel
theorem dX12_stoods_48 : decode cX12_stoods 48 = .ok (.goto 24, 3) := by decide +kernel
theorem dX12_stoods_51 : decode cX12_stoods 51 = .ok (.aload_n 0, 1) := by decide +kernel
theorem dX12_stoods_52 : decode cX12_stoods 52 = .ok (.getfield 216, 3) := by decide +kernel
theorem dX12_stoods_55 : decode cX12_stoods 55 = .ok (.iload_n 2, 1) := by decide +kernel
theorem dX12_stoods_56 : decode cX12_stoods 56 = .ok (.if_icmp .ne 6, 3) := by decide +kernel
theorem dX12_stoods_59 : decode cX12_stoods 59 = .ok (.iload 5, 2) := by decide +kernel
theorem dX12_stoods_61 : decode cX12_stoods 61 = .ok (.istore_n 3, 1) := by decide +kernel
theorem dX12_stoods_62 : decode cX12_stoods 62 = .ok (.aload_n 0, 1) := by decide +kernel
theorem dX12_stoods_63 : decode cX12_stoods 63 = .ok (.dup, 1) := by decide +kernel
theorem dX12_stoods_64 : decode cX12_stoods 64 = .ok (.getfield 216, 3) := by decide +kernel
theorem dX12_stoods_67 : decode cX12_stoods 67 = .ok (.iconst 1, 1) := by decide +kernel
theorem dX12_stoods_68 : decode cX12_stoods 68 = .ok (.iadd, 1) := by decide +kernel
theorem dX12_stoods_69 : decode cX12_stoods 69 = .ok (.putfield 216, 3) := by decide +kernel
theorem dX12_stoods_72 : decode cX12_stoods 72 = .ok (.iinc 4 1, 3) := by decide +kernel
theorem dX12_stoods_75 : decode cX12_stoods 75 = .ok (.goto (-65), 3) := by decide +kernel
theorem dX12_stoods_78 : decode cX12_stoods 78 = .ok (.iload_n 3, 1) := by decide +kernel
theorem dX12_stoods_79 : decode cX12_stoods 79 = .ok (.ireturn, 1) := by decide +kernel
theorem dX12_mayStand_0 : decode cX12_mayStand 0 = .ok (.aload_n 0, 1) := by decide +kernel
theorem dX12_mayStand_1 : decode cX12_mayStand 1 = .ok (.iload_n 1, 1) := by decide +kernel
theorem dX12_mayStand_2 : decode cX12_mayStand 2 = .ok (.invokevirtual 81, 3) := by decide +kernel
theorem dX12_mayStand_5 : decode cX12_mayStand 5 = .ok (.ifCond .eq 23, 3) := by decide +kernel
theorem dX12_mayStand_8 : decode cX12_mayStand 8 = .ok (.aload_n 0, 1) := by decide +kernel
theorem dX12_mayStand_9 : decode cX12_mayStand 9 = .ok (.getfield 213, 3) := by decide +kernel
theorem dX12_mayStand_12 : decode cX12_mayStand 12 = .ok (.ifCond .le 16, 3) := by decide +kernel
theorem dX12_mayStand_15 : decode cX12_mayStand 15 = .ok (.aload_n 0, 1) := by decide +kernel
theorem dX12_mayStand_16 : decode cX12_mayStand 16 = .ok (.getfield 35, 3) := by decide +kernel
theorem dX12_mayStand_19 : decode cX12_mayStand 19 = .ok (.iload_n 1, 1) := by decide +kernel
theorem dX12_mayStand_20 : decode cX12_mayStand 20 = .ok (.iaload, 1) := by decide +kernel
theorem dX12_mayStand_21 : decode cX12_mayStand 21 = .ok (.ifCond .le 7, 3) := by decide +kernel
theorem dX12_mayStand_24 : decode cX12_mayStand 24 = .ok (.iconst 1, 1) := by decide +kernel
theorem dX12_mayStand_25 : decode cX12_mayStand 25 = .ok (.goto 4, 3) := by decide +kernel
theorem dX12_mayStand_28 : decode cX12_mayStand 28 = .ok (.iconst 0, 1) := by decide +kernel
theorem dX12_mayStand_29 : decode cX12_mayStand 29 = .ok (.ireturn, 1) := by decide +kernel
theorem dX12_stood_0 : decode cX12_stood 0 = .ok (.aload_n 0, 1) := by decide +kernel
theorem dX12_stood_1 : decode cX12_stood 1 = .ok (.iload_n 1, 1) := by decide +kernel
theorem dX12_stood_2 : decode cX12_stood 2 = .ok (.invokevirtual 222, 3) := by decide +kernel
theorem dX12_stood_5 : decode cX12_stood 5 = .ok (.ifCond .ne 5, 3) := by decide +kernel
theorem dX12_stood_8 : decode cX12_stood 8 = .ok (.iconst (-1), 1) := by decide +kernel
theorem dX12_stood_9 : decode cX12_stood 9 = .ok (.ireturn, 1) := by decide +kernel
theorem dX12_stood_10 : decode cX12_stood 10 = .ok (.aload_n 0, 1) := by decide +kernel
theorem dX12_stood_11 : decode cX12_stood 11 = .ok (.iload_n 1, 1) := by decide +kernel
theorem dX12_stood_12 : decode cX12_stood 12 = .ok (.iconst (-1), 1) := by decide +kernel
theorem dX12_stood_13 : decode cX12_stood 13 = .ok (.invokevirtual 225, 3) := by decide +kernel
theorem dX12_stood_16 : decode cX12_stood 16 = .ok (.pop, 1) := by decide +kernel
theorem dX12_stood_17 : decode cX12_stood 17 = .ok (.aload_n 0, 1) := by decide +kernel
theorem dX12_stood_18 : decode cX12_stood 18 = .ok (.getfield 216, 3) := by decide +kernel
theorem dX12_stood_21 : decode cX12_stood 21 = .ok (.ireturn, 1) := by decide +kernel
theorem dX12_standing_0 : decode cX12_standing 0 = .ok (.aload_n 0, 1) := by decide +kernel
theorem dX12_standing_1 : decode cX12_standing 1 = .ok (.iload_n 1, 1) := by decide +kernel
theorem dX12_standing_2 : decode cX12_standing 2 = .ok (.invokevirtual 222, 3) := by decide +kernel
theorem dX12_standing_5 : decode cX12_standing 5 = .ok (.ifCond .eq 16, 3) := by decide +kernel
theorem dX12_standing_8 : decode cX12_standing 8 = .ok (.iload_n 2, 1) := by decide +kernel
theorem dX12_standing_9 : decode cX12_standing 9 = .ok (.ifCond .lt 12, 3) := by decide +kernel
theorem dX12_standing_12 : decode cX12_standing 12 = .ok (.aload_n 0, 1) := by decide +kernel
theorem dX12_standing_13 : decode cX12_standing 13 = .ok (.iload_n 1, 1) := by decide +kernel
theorem dX12_standing_14 : decode cX12_standing 14 = .ok (.iload_n 2, 1) := by decide +kernel
theorem dX12_standing_15 : decode cX12_standing 15 = .ok (.invokevirtual 225, 3) := by decide +kernel
theorem dX12_standing_18 : decode cX12_standing 18 = .ok (.goto 4, 3) := by decide +kernel
theorem dX12_standing_21 : decode cX12_standing 21 = .ok (.iconst (-1), 1) := by decide +kernel
theorem dX12_standing_22 : decode cX12_standing 22 = .ok (.ireturn, 1) := by decide +kernel
theorem dX12_known_0 : decode cX12_known 0 = .ok (.aload_n 0, 1) := by decide +kernel
theorem dX12_known_1 : decode cX12_known 1 = .ok (.getfield 65, 3) := by decide +kernel
theorem dX12_known_4 : decode cX12_known 4 = .ok (.istore_n 1, 1) := by decide +kernel
theorem dX12_known_5 : decode cX12_known 5 = .ok (.aload_n 0, 1) := by decide +kernel
theorem dX12_known_6 : decode cX12_known 6 = .ok (.iconst 0, 1) := by decide +kernel
theorem dX12_known_7 : decode cX12_known 7 = .ok (.putfield 65, 3) := by decide +kernel
theorem dX12_known_10 : decode cX12_known 10 = .ok (.iload_n 1, 1) := by decide +kernel
theorem dX12_known_11 : decode cX12_known 11 = .ok (.iconst 1, 1) := by decide +kernel
theorem dX12_known_12 : decode cX12_known 12 = .ok (.if_icmp .ge 5, 3) := by decide +kernel
theorem dX12_known_15 : decode cX12_known 15 = .ok (.iconst (-1), 1) := by decide +kernel
theorem dX12_known_16 : decode cX12_known 16 = .ok (.ireturn, 1) := by decide +kernel
theorem dX12_known_17 : decode cX12_known 17 = .ok (.iconst 0, 1) := by decide +kernel
theorem dX12_known_18 : decode cX12_known 18 = .ok (.istore_n 2, 1) := by decide +kernel
theorem dX12_known_19 : decode cX12_known 19 = .ok (.iload_n 2, 1) := by decide +kernel
theorem dX12_known_20 : decode cX12_known 20 = .ok (.iload_n 1, 1) := by decide +kernel
theorem dX12_known_21 : decode cX12_known 21 = .ok (.if_icmp .ge 23, 3) := by decide +kernel
theorem dX12_known_24 : decode cX12_known 24 = .ok (.aload_n 0, 1) := by decide +kernel
theorem dX12_known_25 : decode cX12_known 25 = .ok (.getfield 7, 3) := by decide +kernel
theorem dX12_known_28 : decode cX12_known 28 = .ok (.iload_n 2, 1) := by decide +kernel
theorem dX12_known_29 : decode cX12_known 29 = .ok (.iaload, 1) := by decide +kernel
theorem dX12_known_30 : decode cX12_known 30 = .ok (.invokestatic 73, 3) := by decide +kernel
theorem dX12_known_33 : decode cX12_known 33 = .ok (.ifCond .ne 5, 3) := by decide +kernel
theorem dX12_known_36 : decode cX12_known 36 = .ok (.iconst (-1), 1) := by decide +kernel
theorem dX12_known_37 : decode cX12_known 37 = .ok (.ireturn, 1) := by decide +kernel
theorem dX12_known_38 : decode cX12_known 38 = .ok (.iinc 2 1, 3) := by decide +kernel
theorem dX12_known_41 : decode cX12_known 41 = .ok (.goto (-22), 3) := by decide +kernel
theorem dX12_known_44 : decode cX12_known 44 = .ok (.iconst 0, 1) := by decide +kernel
theorem dX12_known_45 : decode cX12_known 45 = .ok (.istore_n 2, 1) := by decide +kernel
theorem dX12_known_46 : decode cX12_known 46 = .ok (.iload_n 2, 1) := by decide +kernel
theorem dX12_known_47 : decode cX12_known 47 = .ok (.iload_n 1, 1) := by decide +kernel
theorem dX12_known_48 : decode cX12_known 48 = .ok (.if_icmp .ge 21, 3) := by decide +kernel
theorem dX12_known_51 : decode cX12_known 51 = .ok (.aload_n 0, 1) := by decide +kernel
theorem dX12_known_52 : decode cX12_known 52 = .ok (.getfield 62, 3) := by decide +kernel
theorem dX12_known_55 : decode cX12_known 55 = .ok (.iload_n 2, 1) := by decide +kernel
theorem dX12_known_56 : decode cX12_known 56 = .ok (.aload_n 0, 1) := by decide +kernel
theorem dX12_known_57 : decode cX12_known 57 = .ok (.getfield 7, 3) := by decide +kernel
theorem dX12_known_60 : decode cX12_known 60 = .ok (.iload_n 2, 1) := by decide +kernel
theorem dX12_known_61 : decode cX12_known 61 = .ok (.iaload, 1) := by decide +kernel
theorem dX12_known_62 : decode cX12_known 62 = .ok (.iastore, 1) := by decide +kernel
theorem dX12_known_63 : decode cX12_known 63 = .ok (.iinc 2 1, 3) := by decide +kernel
theorem dX12_known_66 : decode cX12_known 66 = .ok (.goto (-20), 3) := by decide +kernel
theorem dX12_known_69 : decode cX12_known 69 = .ok (.aload_n 0, 1) := by decide +kernel
theorem dX12_known_70 : decode cX12_known 70 = .ok (.iload_n 1, 1) := by decide +kernel
theorem dX12_known_71 : decode cX12_known 71 = .ok (.putfield 228, 3) := by decide +kernel
theorem dX12_known_74 : decode cX12_known 74 = .ok (.iload_n 1, 1) := by decide +kernel
theorem dX12_known_75 : decode cX12_known 75 = .ok (.ireturn, 1) := by decide +kernel
theorem dX12_floor_0 : decode cX12_floor 0 = .ok (.iload_n 0, 1) := by decide +kernel
theorem dX12_floor_1 : decode cX12_floor 1 = .ok (.ifCond .lt 9, 3) := by decide +kernel
theorem dX12_floor_4 : decode cX12_floor 4 = .ok (.iload_n 0, 1) := by decide +kernel
theorem dX12_floor_5 : decode cX12_floor 5 = .ok (.iload_n 1, 1) := by decide +kernel
theorem dX12_floor_6 : decode cX12_floor 6 = .ok (.idiv, 1) := by decide +kernel
theorem dX12_floor_7 : decode cX12_floor 7 = .ok (.goto 11, 3) := by decide +kernel
theorem dX12_floor_10 : decode cX12_floor 10 = .ok (.iload_n 1, 1) := by decide +kernel
theorem dX12_floor_11 : decode cX12_floor 11 = .ok (.iconst 1, 1) := by decide +kernel
theorem dX12_floor_12 : decode cX12_floor 12 = .ok (.isub, 1) := by decide +kernel
theorem dX12_floor_13 : decode cX12_floor 13 = .ok (.iload_n 0, 1) := by decide +kernel
theorem dX12_floor_14 : decode cX12_floor 14 = .ok (.isub, 1) := by decide +kernel
theorem dX12_floor_15 : decode cX12_floor 15 = .ok (.iload_n 1, 1) := by decide +kernel
theorem dX12_floor_16 : decode cX12_floor 16 = .ok (.idiv, 1) := by decide +kernel
theorem dX12_floor_17 : decode cX12_floor 17 = .ok (.ineg, 1) := by decide +kernel
theorem dX12_floor_18 : decode cX12_floor 18 = .ok (.ireturn, 1) := by decide +kernel
theorem dX12_standsAt_0 : decode cX12_standsAt 0 = .ok (.iconst 0, 1) := by decide +kernel
theorem dX12_standsAt_1 : decode cX12_standsAt 1 = .ok (.istore 4, 2) := by decide +kernel
theorem dX12_standsAt_3 : decode cX12_standsAt 3 = .ok (.iload 4, 2) := by decide +kernel
theorem dX12_standsAt_5 : decode cX12_standsAt 5 = .ok (.iconst 5, 1) := by decide +kernel
theorem dX12_standsAt_6 : decode cX12_standsAt 6 = .ok (.if_icmp .ge 118, 3) := by decide +kernel
theorem dX12_standsAt_9 : decode cX12_standsAt 9 = .ok (.iconst 0, 1) := by decide +kernel
theorem dX12_standsAt_10 : decode cX12_standsAt 10 = .ok (.istore 5, 2) := by decide +kernel
theorem dX12_standsAt_12 : decode cX12_standsAt 12 = .ok (.iload 5, 2) := by decide +kernel
theorem dX12_standsAt_14 : decode cX12_standsAt 14 = .ok (.bipush 10, 2) := by decide +kernel
theorem dX12_standsAt_16 : decode cX12_standsAt 16 = .ok (.if_icmp .ge 102, 3) := by decide +kernel
theorem dX12_standsAt_19 : decode cX12_standsAt 19 = .ok (.aload_n 0, 1) := by decide +kernel
theorem dX12_standsAt_20 : decode cX12_standsAt 20 = .ok (.iload_n 1, 1) := by decide +kernel
theorem dX12_standsAt_21 : decode cX12_standsAt 21 = .ok (.iload 4, 2) := by decide +kernel
theorem dX12_standsAt_23 : decode cX12_standsAt 23 = .ok (.iload 5, 2) := by decide +kernel
theorem dX12_standsAt_25 : decode cX12_standsAt 25 = .ok (.invokevirtual 86, 3) := by decide +kernel
theorem dX12_standsAt_28 : decode cX12_standsAt 28 = .ok (.istore 6, 2) := by decide +kernel
theorem dX12_standsAt_30 : decode cX12_standsAt 30 = .ok (.iload 6, 2) := by decide +kernel
theorem dX12_standsAt_32 : decode cX12_standsAt 32 = .ok (.invokestatic 73, 3) := by decide +kernel
theorem dX12_standsAt_35 : decode cX12_standsAt 35 = .ok (.ifCond .ne 13, 3) := by decide +kernel
theorem dX12_standsAt_38 : decode cX12_standsAt 38 = .ok (.iload 6, 2) := by decide +kernel
theorem dX12_standsAt_40 : decode cX12_standsAt 40 = .ok (.bipush 46, 2) := by decide +kernel
theorem dX12_standsAt_42 : decode cX12_standsAt 42 = .ok (.if_icmp .eq 6, 3) := by decide +kernel
theorem dX12_standsAt_45 : decode cX12_standsAt 45 = .ok (.goto 67, 3) := by decide +kernel
theorem dX12_standsAt_48 : decode cX12_standsAt 48 = .ok (.iload_n 3, 1) := by decide +kernel
theorem dX12_standsAt_49 : decode cX12_standsAt 49 = .ok (.iload 4, 2) := by decide +kernel
theorem dX12_standsAt_51 : decode cX12_standsAt 51 = .ok (.iload_n 2, 1) := by decide +kernel
theorem dX12_standsAt_52 : decode cX12_standsAt 52 = .ok (.imul, 1) := by decide +kernel
theorem dX12_standsAt_53 : decode cX12_standsAt 53 = .ok (.iadd, 1) := by decide +kernel
theorem dX12_standsAt_54 : decode cX12_standsAt 54 = .ok (.iload 5, 2) := by decide +kernel
theorem dX12_standsAt_56 : decode cX12_standsAt 56 = .ok (.iadd, 1) := by decide +kernel
theorem dX12_standsAt_57 : decode cX12_standsAt 57 = .ok (.istore 7, 2) := by decide +kernel
theorem dX12_standsAt_59 : decode cX12_standsAt 59 = .ok (.iload 7, 2) := by decide +kernel
theorem dX12_standsAt_61 : decode cX12_standsAt 61 = .ok (.iconst 0, 1) := by decide +kernel
theorem dX12_standsAt_62 : decode cX12_standsAt 62 = .ok (.aload_n 0, 1) := by decide +kernel
theorem dX12_standsAt_63 : decode cX12_standsAt 63 = .ok (.getfield 228, 3) := by decide +kernel
theorem dX12_standsAt_66 : decode cX12_standsAt 66 = .ok (.iconst 1, 1) := by decide +kernel
theorem dX12_standsAt_67 : decode cX12_standsAt 67 = .ok (.isub, 1) := by decide +kernel
theorem dX12_standsAt_68 : decode cX12_standsAt 68 = .ok (.invokestatic 69, 3) := by decide +kernel
theorem dX12_standsAt_71 : decode cX12_standsAt 71 = .ok (.ifCond .eq 39, 3) := by decide +kernel
theorem dX12_standsAt_74 : decode cX12_standsAt 74 = .ok (.iload 7, 2) := by decide +kernel
theorem dX12_standsAt_76 : decode cX12_standsAt 76 = .ok (.iload_n 2, 1) := by decide +kernel
theorem dX12_standsAt_77 : decode cX12_standsAt 77 = .ok (.invokestatic 231, 3) := by decide +kernel
theorem dX12_standsAt_80 : decode cX12_standsAt 80 = .ok (.iload_n 3, 1) := by decide +kernel
theorem dX12_standsAt_81 : decode cX12_standsAt 81 = .ok (.iload_n 2, 1) := by decide +kernel
theorem dX12_standsAt_82 : decode cX12_standsAt 82 = .ok (.invokestatic 231, 3) := by decide +kernel
theorem dX12_standsAt_85 : decode cX12_standsAt 85 = .ok (.iload 4, 2) := by decide +kernel
theorem dX12_standsAt_87 : decode cX12_standsAt 87 = .ok (.iadd, 1) := by decide +kernel
theorem dX12_standsAt_88 : decode cX12_standsAt 88 = .ok (.if_icmp .ne 22, 3) := by decide +kernel
theorem dX12_standsAt_91 : decode cX12_standsAt 91 = .ok (.iload 6, 2) := by decide +kernel
theorem dX12_standsAt_93 : decode cX12_standsAt 93 = .ok (.bipush 46, 2) := by decide +kernel
theorem dX12_standsAt_95 : decode cX12_standsAt 95 = .ok (.if_icmp .eq 17, 3) := by decide +kernel
theorem dX12_standsAt_98 : decode cX12_standsAt 98 = .ok (.iload 6, 2) := by decide +kernel
theorem dX12_standsAt_100 : decode cX12_standsAt 100 = .ok (.aload_n 0, 1) := by decide +kernel
theorem dX12_standsAt_101 : decode cX12_standsAt 101 = .ok (.getfield 62, 3) := by decide +kernel
theorem dX12_standsAt_104 : decode cX12_standsAt 104 = .ok (.iload 7, 2) := by decide +kernel
theorem dX12_standsAt_106 : decode cX12_standsAt 106 = .ok (.iaload, 1) := by decide +kernel
theorem dX12_standsAt_107 : decode cX12_standsAt 107 = .ok (.if_icmp .eq 5, 3) := by decide +kernel
theorem dX12_standsAt_110 : decode cX12_standsAt 110 = .ok (.iconst 0, 1) := by decide +kernel
theorem dX12_standsAt_111 : decode cX12_standsAt 111 = .ok (.ireturn, 1) := by decide +kernel
theorem dX12_standsAt_112 : decode cX12_standsAt 112 = .ok (.iinc 5 1, 3) := by decide +kernel
theorem dX12_standsAt_115 : decode cX12_standsAt 115 = .ok (.goto (-103), 3) := by decide +kernel
theorem dX12_standsAt_118 : decode cX12_standsAt 118 = .ok (.iinc 4 1, 3) := by decide +kernel
theorem dX12_standsAt_121 : decode cX12_standsAt 121 = .ok (.goto (-118), 3) := by decide +kernel
theorem dX12_standsAt_124 : decode cX12_standsAt 124 = .ok (.iconst 1, 1) := by decide +kernel
theorem dX12_standsAt_125 : decode cX12_standsAt 125 = .ok (.ireturn, 1) := by decide +kernel
theorem dX12_standsBy_0 : decode cX12_standsBy 0 = .ok (.aload_n 0, 1) := by decide +kernel
theorem dX12_standsBy_1 : decode cX12_standsBy 1 = .ok (.iconst 0, 1) := by decide +kernel
theorem dX12_standsBy_2 : decode cX12_standsBy 2 = .ok (.putfield 216, 3) := by decide +kernel
theorem dX12_standsBy_5 : decode cX12_standsBy 5 = .ok (.sipush (-1000), 3) := by decide +kernel
theorem dX12_standsBy_8 : decode cX12_standsBy 8 = .ok (.istore 4, 2) := by decide +kernel
theorem dX12_standsBy_10 : decode cX12_standsBy 10 = .ok (.bipush (-5), 2) := by decide +kernel
theorem dX12_standsBy_12 : decode cX12_standsBy 12 = .ok (.iload_n 2, 1) := by decide +kernel
theorem dX12_standsBy_13 : decode cX12_standsBy 13 = .ok (.imul, 1) := by decide +kernel
theorem dX12_standsBy_14 : decode cX12_standsBy 14 = .ok (.bipush 10, 2) := by decide +kernel
theorem dX12_standsBy_16 : decode cX12_standsBy 16 = .ok (.isub, 1) := by decide +kernel
theorem dX12_standsBy_17 : decode cX12_standsBy 17 = .ok (.istore 5, 2) := by decide +kernel
theorem dX12_standsBy_19 : decode cX12_standsBy 19 = .ok (.iload 5, 2) := by decide +kernel
theorem dX12_standsBy_21 : decode cX12_standsBy 21 = .ok (.aload_n 0, 1) := by decide +kernel
theorem dX12_standsBy_22 : decode cX12_standsBy 22 = .ok (.getfield 228, 3) := by decide +kernel
theorem dX12_standsBy_25 : decode cX12_standsBy 25 = .ok (.if_icmp .ge 53, 3) := by decide +kernel
theorem dX12_standsBy_28 : decode cX12_standsBy 28 = .ok (.aload_n 0, 1) := by decide +kernel
theorem dX12_standsBy_29 : decode cX12_standsBy 29 = .ok (.iload_n 1, 1) := by decide +kernel
theorem dX12_standsBy_30 : decode cX12_standsBy 30 = .ok (.invokevirtual 234, 3) := by decide +kernel
theorem dX12_standsBy_33 : decode cX12_standsBy 33 = .ok (.ifCond .eq 45, 3) := by decide +kernel
theorem dX12_standsBy_36 : decode cX12_standsBy 36 = .ok (.aload_n 0, 1) := by decide +kernel
theorem dX12_standsBy_37 : decode cX12_standsBy 37 = .ok (.iload_n 1, 1) := by decide +kernel
theorem dX12_standsBy_38 : decode cX12_standsBy 38 = .ok (.iload_n 2, 1) := by decide +kernel
theorem dX12_standsBy_39 : decode cX12_standsBy 39 = .ok (.iload 5, 2) := by decide +kernel
theorem dX12_standsBy_41 : decode cX12_standsBy 41 = .ok (.invokevirtual 237, 3) := by decide +kernel
theorem dX12_standsBy_44 : decode cX12_standsBy 44 = .ok (.ifCond .ne 6, 3) := by decide +kernel
theorem dX12_standsBy_47 : decode cX12_standsBy 47 = .ok (.goto 25, 3) := by decide +kernel
theorem dX12_standsBy_50 : decode cX12_standsBy 50 = .ok (.aload_n 0, 1) := by decide +kernel
theorem dX12_standsBy_51 : decode cX12_standsBy 51 = .ok (.getfield 216, 3) := by decide +kernel
theorem dX12_standsBy_54 : decode cX12_standsBy 54 = .ok (.iload_n 3, 1) := by decide +kernel
theorem dX12_standsBy_55 : decode cX12_standsBy 55 = .ok (.if_icmp .ne 7, 3) := by decide +kernel
theorem dX12_standsBy_58 : decode cX12_standsBy 58 = .ok (.iload 5, 2) := by decide +kernel
theorem dX12_standsBy_60 : decode cX12_standsBy 60 = .ok (.istore 4, 2) := by decide +kernel
theorem dX12_standsBy_62 : decode cX12_standsBy 62 = .ok (.aload_n 0, 1) := by decide +kernel
theorem dX12_standsBy_63 : decode cX12_standsBy 63 = .ok (.dup, 1) := by decide +kernel
theorem dX12_standsBy_64 : decode cX12_standsBy 64 = .ok (.getfield 216, 3) := by decide +kernel
theorem dX12_standsBy_67 : decode cX12_standsBy 67 = .ok (.iconst 1, 1) := by decide +kernel
theorem dX12_standsBy_68 : decode cX12_standsBy 68 = .ok (.iadd, 1) := by decide +kernel
theorem dX12_standsBy_69 : decode cX12_standsBy 69 = .ok (.putfield 216, 3) := by decide +kernel
theorem dX12_standsBy_72 : decode cX12_standsBy 72 = .ok (.iinc 5 1, 3) := by decide +kernel
theorem dX12_standsBy_75 : decode cX12_standsBy 75 = .ok (.goto (-56), 3) := by decide +kernel
theorem dX12_standsBy_78 : decode cX12_standsBy 78 = .ok (.iload 4, 2) := by decide +kernel
theorem dX12_standsBy_80 : decode cX12_standsBy 80 = .ok (.ireturn, 1) := by decide +kernel
theorem dX12_hasInk_0 : decode cX12_hasInk 0 = .ok (.iconst 0, 1) := by decide +kernel
theorem dX12_hasInk_1 : decode cX12_hasInk 1 = .ok (.istore_n 2, 1) := by decide +kernel
theorem dX12_hasInk_2 : decode cX12_hasInk 2 = .ok (.iload_n 2, 1) := by decide +kernel
theorem dX12_hasInk_3 : decode cX12_hasInk 3 = .ok (.bipush 50, 2) := by decide +kernel
theorem dX12_hasInk_5 : decode cX12_hasInk 5 = .ok (.if_icmp .ge 44, 3) := by decide +kernel
theorem dX12_hasInk_8 : decode cX12_hasInk 8 = .ok (.aload_n 0, 1) := by decide +kernel
theorem dX12_hasInk_9 : decode cX12_hasInk 9 = .ok (.getfield 17, 3) := by decide +kernel
theorem dX12_hasInk_12 : decode cX12_hasInk 12 = .ok (.bipush 50, 2) := by decide +kernel
theorem dX12_hasInk_14 : decode cX12_hasInk 14 = .ok (.iload_n 1, 1) := by decide +kernel
theorem dX12_hasInk_15 : decode cX12_hasInk 15 = .ok (.imul, 1) := by decide +kernel
theorem dX12_hasInk_16 : decode cX12_hasInk 16 = .ok (.iload_n 2, 1) := by decide +kernel
theorem dX12_hasInk_17 : decode cX12_hasInk 17 = .ok (.iadd, 1) := by decide +kernel
theorem dX12_hasInk_18 : decode cX12_hasInk 18 = .ok (.iaload, 1) := by decide +kernel
theorem dX12_hasInk_19 : decode cX12_hasInk 19 = .ok (.invokestatic 73, 3) := by decide +kernel
theorem dX12_hasInk_22 : decode cX12_hasInk 22 = .ok (.ifCond .ne 19, 3) := by decide +kernel
theorem dX12_hasInk_25 : decode cX12_hasInk 25 = .ok (.aload_n 0, 1) := by decide +kernel
theorem dX12_hasInk_26 : decode cX12_hasInk 26 = .ok (.getfield 17, 3) := by decide +kernel
theorem dX12_hasInk_29 : decode cX12_hasInk 29 = .ok (.bipush 50, 2) := by decide +kernel
theorem dX12_hasInk_31 : decode cX12_hasInk 31 = .ok (.iload_n 1, 1) := by decide +kernel
theorem dX12_hasInk_32 : decode cX12_hasInk 32 = .ok (.imul, 1) := by decide +kernel
theorem dX12_hasInk_33 : decode cX12_hasInk 33 = .ok (.iload_n 2, 1) := by decide +kernel
theorem dX12_hasInk_34 : decode cX12_hasInk 34 = .ok (.iadd, 1) := by decide +kernel
theorem dX12_hasInk_35 : decode cX12_hasInk 35 = .ok (.iaload, 1) := by decide +kernel
theorem dX12_hasInk_36 : decode cX12_hasInk 36 = .ok (.bipush 46, 2) := by decide +kernel
theorem dX12_hasInk_38 : decode cX12_hasInk 38 = .ok (.if_icmp .ne 5, 3) := by decide +kernel
theorem dX12_hasInk_41 : decode cX12_hasInk 41 = .ok (.iconst 1, 1) := by decide +kernel
theorem dX12_hasInk_42 : decode cX12_hasInk 42 = .ok (.ireturn, 1) := by decide +kernel
theorem dX12_hasInk_43 : decode cX12_hasInk 43 = .ok (.iinc 2 1, 3) := by decide +kernel
theorem dX12_hasInk_46 : decode cX12_hasInk 46 = .ok (.goto (-44), 3) := by decide +kernel
theorem dX12_hasInk_49 : decode cX12_hasInk 49 = .ok (.iconst 0, 1) := by decide +kernel
theorem dX12_hasInk_50 : decode cX12_hasInk 50 = .ok (.ireturn, 1) := by decide +kernel
theorem dX12_stands_0 : decode cX12_stands 0 = .ok (.aload_n 0, 1) := by decide +kernel
theorem dX12_stands_1 : decode cX12_stands 1 = .ok (.iload_n 1, 1) := by decide +kernel
theorem dX12_stands_2 : decode cX12_stands 2 = .ok (.invokevirtual 81, 3) := by decide +kernel
theorem dX12_stands_5 : decode cX12_stands 5 = .ok (.ifCond .eq 20, 3) := by decide +kernel
theorem dX12_stands_8 : decode cX12_stands 8 = .ok (.aload_n 0, 1) := by decide +kernel
theorem dX12_stands_9 : decode cX12_stands 9 = .ok (.getfield 228, 3) := by decide +kernel
theorem dX12_stands_12 : decode cX12_stands 12 = .ok (.ifCond .eq 13, 3) := by decide +kernel
theorem dX12_stands_15 : decode cX12_stands 15 = .ok (.iload_n 2, 1) := by decide +kernel
theorem dX12_stands_16 : decode cX12_stands 16 = .ok (.iconst 2, 1) := by decide +kernel
theorem dX12_stands_17 : decode cX12_stands 17 = .ok (.bipush 60, 2) := by decide +kernel
theorem dX12_stands_19 : decode cX12_stands 19 = .ok (.invokestatic 69, 3) := by decide +kernel
theorem dX12_stands_22 : decode cX12_stands 22 = .ok (.ifCond .ne 5, 3) := by decide +kernel
theorem dX12_stands_25 : decode cX12_stands 25 = .ok (.iconst (-1), 1) := by decide +kernel
theorem dX12_stands_26 : decode cX12_stands 26 = .ok (.ireturn, 1) := by decide +kernel
theorem dX12_stands_27 : decode cX12_stands 27 = .ok (.aload_n 0, 1) := by decide +kernel
theorem dX12_stands_28 : decode cX12_stands 28 = .ok (.iload_n 1, 1) := by decide +kernel
theorem dX12_stands_29 : decode cX12_stands 29 = .ok (.iload_n 2, 1) := by decide +kernel
theorem dX12_stands_30 : decode cX12_stands 30 = .ok (.iconst (-1), 1) := by decide +kernel
theorem dX12_stands_31 : decode cX12_stands 31 = .ok (.invokevirtual 240, 3) := by decide +kernel
theorem dX12_stands_34 : decode cX12_stands 34 = .ok (.pop, 1) := by decide +kernel
theorem dX12_stands_35 : decode cX12_stands 35 = .ok (.aload_n 0, 1) := by decide +kernel
theorem dX12_stands_36 : decode cX12_stands 36 = .ok (.getfield 216, 3) := by decide +kernel
theorem dX12_stands_39 : decode cX12_stands 39 = .ok (.ireturn, 1) := by decide +kernel
theorem dX12_letter_0 : decode cX12_letter 0 = .ok (.aload_n 0, 1) := by decide +kernel
theorem dX12_letter_1 : decode cX12_letter 1 = .ok (.iload_n 1, 1) := by decide +kernel
theorem dX12_letter_2 : decode cX12_letter 2 = .ok (.invokevirtual 81, 3) := by decide +kernel
theorem dX12_letter_5 : decode cX12_letter 5 = .ok (.ifCond .eq 24, 3) := by decide +kernel
theorem dX12_letter_8 : decode cX12_letter 8 = .ok (.aload_n 0, 1) := by decide +kernel
theorem dX12_letter_9 : decode cX12_letter 9 = .ok (.getfield 228, 3) := by decide +kernel
theorem dX12_letter_12 : decode cX12_letter 12 = .ok (.ifCond .eq 17, 3) := by decide +kernel
theorem dX12_letter_15 : decode cX12_letter 15 = .ok (.iload_n 2, 1) := by decide +kernel
theorem dX12_letter_16 : decode cX12_letter 16 = .ok (.iconst 2, 1) := by decide +kernel
theorem dX12_letter_17 : decode cX12_letter 17 = .ok (.bipush 60, 2) := by decide +kernel
theorem dX12_letter_19 : decode cX12_letter 19 = .ok (.invokestatic 69, 3) := by decide +kernel
theorem dX12_letter_22 : decode cX12_letter 22 = .ok (.ifCond .eq 7, 3) := by decide +kernel
theorem dX12_letter_25 : decode cX12_letter 25 = .ok (.iload_n 3, 1) := by decide +kernel
theorem dX12_letter_26 : decode cX12_letter 26 = .ok (.ifCond .ge 9, 3) := by decide +kernel
theorem dX12_letter_29 : decode cX12_letter 29 = .ok (.sipush (-1000), 3) := by decide +kernel
theorem dX12_letter_32 : decode cX12_letter 32 = .ok (.goto 10, 3) := by decide +kernel
theorem dX12_letter_35 : decode cX12_letter 35 = .ok (.aload_n 0, 1) := by decide +kernel
theorem dX12_letter_36 : decode cX12_letter 36 = .ok (.iload_n 1, 1) := by decide +kernel
theorem dX12_letter_37 : decode cX12_letter 37 = .ok (.iload_n 2, 1) := by decide +kernel
theorem dX12_letter_38 : decode cX12_letter 38 = .ok (.iload_n 3, 1) := by decide +kernel
theorem dX12_letter_39 : decode cX12_letter 39 = .ok (.invokevirtual 240, 3) := by decide +kernel
theorem dX12_letter_42 : decode cX12_letter 42 = .ok (.ireturn, 1) := by decide +kernel
theorem dX12_width_0 : decode cX12_width 0 = .ok (.aload_n 0, 1) := by decide +kernel
theorem dX12_width_1 : decode cX12_width 1 = .ok (.iload_n 1, 1) := by decide +kernel
theorem dX12_width_2 : decode cX12_width 2 = .ok (.invokevirtual 81, 3) := by decide +kernel
theorem dX12_width_5 : decode cX12_width 5 = .ok (.ifCond .eq 30, 3) := by decide +kernel
theorem dX12_width_8 : decode cX12_width 8 = .ok (.aload_n 0, 1) := by decide +kernel
theorem dX12_width_9 : decode cX12_width 9 = .ok (.getfield 228, 3) := by decide +kernel
theorem dX12_width_12 : decode cX12_width 12 = .ok (.ifCond .eq 23, 3) := by decide +kernel
theorem dX12_width_15 : decode cX12_width 15 = .ok (.iload_n 2, 1) := by decide +kernel
theorem dX12_width_16 : decode cX12_width 16 = .ok (.iconst 2, 1) := by decide +kernel
theorem dX12_width_17 : decode cX12_width 17 = .ok (.bipush 60, 2) := by decide +kernel
theorem dX12_width_19 : decode cX12_width 19 = .ok (.invokestatic 69, 3) := by decide +kernel
theorem dX12_width_22 : decode cX12_width 22 = .ok (.ifCond .eq 13, 3) := by decide +kernel
theorem dX12_width_25 : decode cX12_width 25 = .ok (.iload_n 3, 1) := by decide +kernel
theorem dX12_width_26 : decode cX12_width 26 = .ok (.iload_n 2, 1) := by decide +kernel
theorem dX12_width_27 : decode cX12_width 27 = .ok (.bipush 60, 2) := by decide +kernel
theorem dX12_width_29 : decode cX12_width 29 = .ok (.invokestatic 69, 3) := by decide +kernel
theorem dX12_width_32 : decode cX12_width 32 = .ok (.ifCond .ne 5, 3) := by decide +kernel
theorem dX12_width_35 : decode cX12_width 35 = .ok (.iconst (-1), 1) := by decide +kernel
theorem dX12_width_36 : decode cX12_width 36 = .ok (.ireturn, 1) := by decide +kernel
theorem dX12_width_37 : decode cX12_width 37 = .ok (.iconst 0, 1) := by decide +kernel
theorem dX12_width_38 : decode cX12_width 38 = .ok (.istore 4, 2) := by decide +kernel
theorem dX12_width_40 : decode cX12_width 40 = .ok (.iconst (-1), 1) := by decide +kernel
theorem dX12_width_41 : decode cX12_width 41 = .ok (.istore 5, 2) := by decide +kernel
theorem dX12_width_43 : decode cX12_width 43 = .ok (.iload_n 2, 1) := by decide +kernel
theorem dX12_width_44 : decode cX12_width 44 = .ok (.istore 6, 2) := by decide +kernel
theorem dX12_width_46 : decode cX12_width 46 = .ok (.iload 6, 2) := by decide +kernel
theorem dX12_width_48 : decode cX12_width 48 = .ok (.iload_n 3, 1) := by decide +kernel
theorem dX12_width_49 : decode cX12_width 49 = .ok (.if_icmp .gt 40, 3) := by decide +kernel
theorem dX12_width_52 : decode cX12_width 52 = .ok (.aload_n 0, 1) := by decide +kernel
theorem dX12_width_53 : decode cX12_width 53 = .ok (.iload_n 1, 1) := by decide +kernel
theorem dX12_width_54 : decode cX12_width 54 = .ok (.iload 6, 2) := by decide +kernel
theorem dX12_width_56 : decode cX12_width 56 = .ok (.iconst (-1), 1) := by decide +kernel
theorem dX12_width_57 : decode cX12_width 57 = .ok (.invokevirtual 240, 3) := by decide +kernel
theorem dX12_width_60 : decode cX12_width 60 = .ok (.pop, 1) := by decide +kernel
theorem dX12_width_61 : decode cX12_width 61 = .ok (.aload_n 0, 1) := by decide +kernel
theorem dX12_width_62 : decode cX12_width 62 = .ok (.getfield 216, 3) := by decide +kernel
theorem dX12_width_65 : decode cX12_width 65 = .ok (.iload 4, 2) := by decide +kernel
theorem dX12_width_67 : decode cX12_width 67 = .ok (.if_icmp .gt 6, 3) := by decide +kernel
theorem dX12_width_70 : decode cX12_width 70 = .ok (.goto 13, 3) := by decide +kernel
theorem dX12_width_73 : decode cX12_width 73 = .ok (.aload_n 0, 1) := by decide +kernel
theorem dX12_width_74 : decode cX12_width 74 = .ok (.getfield 216, 3) := by decide +kernel
theorem dX12_width_77 : decode cX12_width 77 = .ok (.istore 4, 2) := by decide +kernel
theorem dX12_width_79 : decode cX12_width 79 = .ok (.iload 6, 2) := by decide +kernel
theorem dX12_width_81 : decode cX12_width 81 = .ok (.istore 5, 2) := by decide +kernel
theorem dX12_width_83 : decode cX12_width 83 = .ok (.iinc 6 1, 3) := by decide +kernel
theorem dX12_width_86 : decode cX12_width 86 = .ok (.goto (-40), 3) := by decide +kernel
theorem dX12_width_89 : decode cX12_width 89 = .ok (.iload 5, 2) := by decide +kernel
theorem dX12_width_91 : decode cX12_width 91 = .ok (.ireturn, 1) := by decide +kernel
end
section
theorem dL_law_0 : decode cL_law 0 = .ok (.new 7, 3) := by decide +kernel
theorem dL_law_3 : decode cL_law 3 = .ok (.dup, 1) := by decide +kernel
theorem dL_law_4 : decode cL_law 4 = .ok (.invokespecial 9, 3) := by decide +kernel
theorem dL_law_7 : decode cL_law 7 = .ok (.astore_n 1, 1) := by decide +kernel
theorem dL_law_8 : decode cL_law 8 = .ok (.new 10, 3) := by decide +kernel
theorem dL_law_11 : decode cL_law 11 = .ok (.dup, 1) := by decide +kernel
theorem dL_law_12 : decode cL_law 12 = .ok (.invokespecial 12, 3) := by decide +kernel
theorem dL_law_15 : decode cL_law 15 = .ok (.astore_n 2, 1) := by decide +kernel
theorem dL_law_16 : decode cL_law 16 = .ok (.iconst 0, 1) := by decide +kernel
theorem dL_law_17 : decode cL_law 17 = .ok (.istore_n 3, 1) := by decide +kernel
theorem dL_law_18 : decode cL_law 18 = .ok (.iload_n 3, 1) := by decide +kernel
theorem dL_law_19 : decode cL_law 19 = .ok (.aload_n 0, 1) := by decide +kernel
theorem dL_law_20 : decode cL_law 20 = .ok (.arraylength, 1) := by decide +kernel
theorem dL_law_21 : decode cL_law 21 = .ok (.bipush 6, 2) := by decide +kernel
theorem dL_law_23 : decode cL_law 23 = .ok (.isub, 1) := by decide +kernel
theorem dL_law_24 : decode cL_law 24 = .ok (.if_icmp .gt 924, 3) := by decide +kernel
theorem dL_law_27 : decode cL_law 27 = .ok (.aload_n 0, 1) := by decide +kernel
theorem dL_law_28 : decode cL_law 28 = .ok (.iload_n 3, 1) := by decide +kernel
theorem dL_law_29 : decode cL_law 29 = .ok (.iaload, 1) := by decide +kernel
theorem dL_law_30 : decode cL_law 30 = .ok (.bipush 31, 2) := by decide +kernel
theorem dL_law_32 : decode cL_law 32 = .ok (.iand, 1) := by decide +kernel
theorem dL_law_33 : decode cL_law 33 = .ok (.tableswitch 909 0 23 #[111, 174, 197, 220, 263, 332, 345, 388, 411, 444, 477, 510, 543, 586, 599, 632, 655, 688, 721, 744, 777, 790, 823, 866], 111) := by decide +kernel
theorem dL_law_144 : decode cL_law 144 = .ok (.aload_n 1, 1) := by decide +kernel
theorem dL_law_145 : decode cL_law 145 = .ok (.aload_n 0, 1) := by decide +kernel
theorem dL_law_146 : decode cL_law 146 = .ok (.iload_n 3, 1) := by decide +kernel
theorem dL_law_147 : decode cL_law 147 = .ok (.iconst 1, 1) := by decide +kernel
theorem dL_law_148 : decode cL_law 148 = .ok (.iadd, 1) := by decide +kernel
theorem dL_law_149 : decode cL_law 149 = .ok (.iaload, 1) := by decide +kernel
theorem dL_law_150 : decode cL_law 150 = .ok (.aload_n 0, 1) := by decide +kernel
theorem dL_law_151 : decode cL_law 151 = .ok (.iload_n 3, 1) := by decide +kernel
theorem dL_law_152 : decode cL_law 152 = .ok (.iconst 2, 1) := by decide +kernel
theorem dL_law_153 : decode cL_law 153 = .ok (.iadd, 1) := by decide +kernel
theorem dL_law_154 : decode cL_law 154 = .ok (.iaload, 1) := by decide +kernel
theorem dL_law_155 : decode cL_law 155 = .ok (.aload_n 0, 1) := by decide +kernel
theorem dL_law_156 : decode cL_law 156 = .ok (.iload_n 3, 1) := by decide +kernel
theorem dL_law_157 : decode cL_law 157 = .ok (.iconst 3, 1) := by decide +kernel
theorem dL_law_158 : decode cL_law 158 = .ok (.iadd, 1) := by decide +kernel
theorem dL_law_159 : decode cL_law 159 = .ok (.iaload, 1) := by decide +kernel
theorem dL_law_160 : decode cL_law 160 = .ok (.aload_n 0, 1) := by decide +kernel
theorem dL_law_161 : decode cL_law 161 = .ok (.iload_n 3, 1) := by decide +kernel
theorem dL_law_162 : decode cL_law 162 = .ok (.iconst 4, 1) := by decide +kernel
theorem dL_law_163 : decode cL_law 163 = .ok (.iadd, 1) := by decide +kernel
theorem dL_law_164 : decode cL_law 164 = .ok (.iaload, 1) := by decide +kernel
theorem dL_law_165 : decode cL_law 165 = .ok (.aload_n 0, 1) := by decide +kernel
theorem dL_law_166 : decode cL_law 166 = .ok (.iload_n 3, 1) := by decide +kernel
theorem dL_law_167 : decode cL_law 167 = .ok (.iconst 5, 1) := by decide +kernel
theorem dL_law_168 : decode cL_law 168 = .ok (.iadd, 1) := by decide +kernel
theorem dL_law_169 : decode cL_law 169 = .ok (.iaload, 1) := by decide +kernel
theorem dL_law_170 : decode cL_law 170 = .ok (.invokevirtual 13, 3) := by decide +kernel
theorem dL_law_173 : decode cL_law 173 = .ok (.aload_n 2, 1) := by decide +kernel
theorem dL_law_174 : decode cL_law 174 = .ok (.aload_n 0, 1) := by decide +kernel
theorem dL_law_175 : decode cL_law 175 = .ok (.iload_n 3, 1) := by decide +kernel
theorem dL_law_176 : decode cL_law 176 = .ok (.iconst 1, 1) := by decide +kernel
theorem dL_law_177 : decode cL_law 177 = .ok (.iadd, 1) := by decide +kernel
theorem dL_law_178 : decode cL_law 178 = .ok (.iaload, 1) := by decide +kernel
theorem dL_law_179 : decode cL_law 179 = .ok (.aload_n 0, 1) := by decide +kernel
theorem dL_law_180 : decode cL_law 180 = .ok (.iload_n 3, 1) := by decide +kernel
theorem dL_law_181 : decode cL_law 181 = .ok (.iconst 2, 1) := by decide +kernel
theorem dL_law_182 : decode cL_law 182 = .ok (.iadd, 1) := by decide +kernel
theorem dL_law_183 : decode cL_law 183 = .ok (.iaload, 1) := by decide +kernel
theorem dL_law_184 : decode cL_law 184 = .ok (.aload_n 0, 1) := by decide +kernel
theorem dL_law_185 : decode cL_law 185 = .ok (.iload_n 3, 1) := by decide +kernel
theorem dL_law_186 : decode cL_law 186 = .ok (.iconst 3, 1) := by decide +kernel
theorem dL_law_187 : decode cL_law 187 = .ok (.iadd, 1) := by decide +kernel
theorem dL_law_188 : decode cL_law 188 = .ok (.iaload, 1) := by decide +kernel
theorem dL_law_189 : decode cL_law 189 = .ok (.aload_n 0, 1) := by decide +kernel
theorem dL_law_190 : decode cL_law 190 = .ok (.iload_n 3, 1) := by decide +kernel
theorem dL_law_191 : decode cL_law 191 = .ok (.iconst 4, 1) := by decide +kernel
theorem dL_law_192 : decode cL_law 192 = .ok (.iadd, 1) := by decide +kernel
theorem dL_law_193 : decode cL_law 193 = .ok (.iaload, 1) := by decide +kernel
theorem dL_law_194 : decode cL_law 194 = .ok (.aload_n 0, 1) := by decide +kernel
theorem dL_law_195 : decode cL_law 195 = .ok (.iload_n 3, 1) := by decide +kernel
theorem dL_law_196 : decode cL_law 196 = .ok (.iconst 5, 1) := by decide +kernel
theorem dL_law_197 : decode cL_law 197 = .ok (.iadd, 1) := by decide +kernel
theorem dL_law_198 : decode cL_law 198 = .ok (.iaload, 1) := by decide +kernel
theorem dL_law_199 : decode cL_law 199 = .ok (.invokevirtual 17, 3) := by decide +kernel
theorem dL_law_202 : decode cL_law 202 = .ok (.if_icmp .eq 740, 3) := by decide +kernel
theorem dL_law_205 : decode cL_law 205 = .ok (.iconst 0, 1) := by decide +kernel
theorem dL_law_206 : decode cL_law 206 = .ok (.ireturn, 1) := by decide +kernel
theorem dL_law_207 : decode cL_law 207 = .ok (.aload_n 1, 1) := by decide +kernel
theorem dL_law_208 : decode cL_law 208 = .ok (.aload_n 0, 1) := by decide +kernel
theorem dL_law_209 : decode cL_law 209 = .ok (.iload_n 3, 1) := by decide +kernel
theorem dL_law_210 : decode cL_law 210 = .ok (.iconst 1, 1) := by decide +kernel
theorem dL_law_211 : decode cL_law 211 = .ok (.iadd, 1) := by decide +kernel
theorem dL_law_212 : decode cL_law 212 = .ok (.iaload, 1) := by decide +kernel
theorem dL_law_213 : decode cL_law 213 = .ok (.invokevirtual 18, 3) := by decide +kernel
theorem dL_law_216 : decode cL_law 216 = .ok (.aload_n 2, 1) := by decide +kernel
theorem dL_law_217 : decode cL_law 217 = .ok (.aload_n 0, 1) := by decide +kernel
theorem dL_law_218 : decode cL_law 218 = .ok (.iload_n 3, 1) := by decide +kernel
theorem dL_law_219 : decode cL_law 219 = .ok (.iconst 1, 1) := by decide +kernel
theorem dL_law_220 : decode cL_law 220 = .ok (.iadd, 1) := by decide +kernel
theorem dL_law_221 : decode cL_law 221 = .ok (.iaload, 1) := by decide +kernel
theorem dL_law_222 : decode cL_law 222 = .ok (.invokevirtual 22, 3) := by decide +kernel
theorem dL_law_225 : decode cL_law 225 = .ok (.if_icmp .eq 717, 3) := by decide +kernel
theorem dL_law_228 : decode cL_law 228 = .ok (.iconst 0, 1) := by decide +kernel
theorem dL_law_229 : decode cL_law 229 = .ok (.ireturn, 1) := by decide +kernel
theorem dL_law_230 : decode cL_law 230 = .ok (.aload_n 1, 1) := by decide +kernel
theorem dL_law_231 : decode cL_law 231 = .ok (.aload_n 0, 1) := by decide +kernel
theorem dL_law_232 : decode cL_law 232 = .ok (.iload_n 3, 1) := by decide +kernel
theorem dL_law_233 : decode cL_law 233 = .ok (.iconst 1, 1) := by decide +kernel
theorem dL_law_234 : decode cL_law 234 = .ok (.iadd, 1) := by decide +kernel
theorem dL_law_235 : decode cL_law 235 = .ok (.iaload, 1) := by decide +kernel
theorem dL_law_236 : decode cL_law 236 = .ok (.invokevirtual 23, 3) := by decide +kernel
theorem dL_law_239 : decode cL_law 239 = .ok (.aload_n 2, 1) := by decide +kernel
theorem dL_law_240 : decode cL_law 240 = .ok (.aload_n 0, 1) := by decide +kernel
theorem dL_law_241 : decode cL_law 241 = .ok (.iload_n 3, 1) := by decide +kernel
theorem dL_law_242 : decode cL_law 242 = .ok (.iconst 1, 1) := by decide +kernel
theorem dL_law_243 : decode cL_law 243 = .ok (.iadd, 1) := by decide +kernel
theorem dL_law_244 : decode cL_law 244 = .ok (.iaload, 1) := by decide +kernel
theorem dL_law_245 : decode cL_law 245 = .ok (.invokevirtual 27, 3) := by decide +kernel
theorem dL_law_248 : decode cL_law 248 = .ok (.if_icmp .eq 694, 3) := by decide +kernel
theorem dL_law_251 : decode cL_law 251 = .ok (.iconst 0, 1) := by decide +kernel
theorem dL_law_252 : decode cL_law 252 = .ok (.ireturn, 1) := by decide +kernel
theorem dL_law_253 : decode cL_law 253 = .ok (.aload_n 1, 1) := by decide +kernel
theorem dL_law_254 : decode cL_law 254 = .ok (.aload_n 0, 1) := by decide +kernel
theorem dL_law_255 : decode cL_law 255 = .ok (.iload_n 3, 1) := by decide +kernel
theorem dL_law_256 : decode cL_law 256 = .ok (.iconst 1, 1) := by decide +kernel
theorem dL_law_257 : decode cL_law 257 = .ok (.iadd, 1) := by decide +kernel
theorem dL_law_258 : decode cL_law 258 = .ok (.iaload, 1) := by decide +kernel
theorem dL_law_259 : decode cL_law 259 = .ok (.aload_n 0, 1) := by decide +kernel
theorem dL_law_260 : decode cL_law 260 = .ok (.iload_n 3, 1) := by decide +kernel
theorem dL_law_261 : decode cL_law 261 = .ok (.iconst 2, 1) := by decide +kernel
theorem dL_law_262 : decode cL_law 262 = .ok (.iadd, 1) := by decide +kernel
theorem dL_law_263 : decode cL_law 263 = .ok (.iaload, 1) := by decide +kernel
theorem dL_law_264 : decode cL_law 264 = .ok (.aload_n 0, 1) := by decide +kernel
theorem dL_law_265 : decode cL_law 265 = .ok (.iload_n 3, 1) := by decide +kernel
theorem dL_law_266 : decode cL_law 266 = .ok (.iconst 3, 1) := by decide +kernel
theorem dL_law_267 : decode cL_law 267 = .ok (.iadd, 1) := by decide +kernel
theorem dL_law_268 : decode cL_law 268 = .ok (.iaload, 1) := by decide +kernel
theorem dL_law_269 : decode cL_law 269 = .ok (.invokevirtual 28, 3) := by decide +kernel
theorem dL_law_272 : decode cL_law 272 = .ok (.aload_n 2, 1) := by decide +kernel
theorem dL_law_273 : decode cL_law 273 = .ok (.aload_n 0, 1) := by decide +kernel
theorem dL_law_274 : decode cL_law 274 = .ok (.iload_n 3, 1) := by decide +kernel
theorem dL_law_275 : decode cL_law 275 = .ok (.iconst 1, 1) := by decide +kernel
theorem dL_law_276 : decode cL_law 276 = .ok (.iadd, 1) := by decide +kernel
theorem dL_law_277 : decode cL_law 277 = .ok (.iaload, 1) := by decide +kernel
theorem dL_law_278 : decode cL_law 278 = .ok (.aload_n 0, 1) := by decide +kernel
theorem dL_law_279 : decode cL_law 279 = .ok (.iload_n 3, 1) := by decide +kernel
theorem dL_law_280 : decode cL_law 280 = .ok (.iconst 2, 1) := by decide +kernel
theorem dL_law_281 : decode cL_law 281 = .ok (.iadd, 1) := by decide +kernel
theorem dL_law_282 : decode cL_law 282 = .ok (.iaload, 1) := by decide +kernel
theorem dL_law_283 : decode cL_law 283 = .ok (.aload_n 0, 1) := by decide +kernel
theorem dL_law_284 : decode cL_law 284 = .ok (.iload_n 3, 1) := by decide +kernel
theorem dL_law_285 : decode cL_law 285 = .ok (.iconst 3, 1) := by decide +kernel
theorem dL_law_286 : decode cL_law 286 = .ok (.iadd, 1) := by decide +kernel
theorem dL_law_287 : decode cL_law 287 = .ok (.iaload, 1) := by decide +kernel
theorem dL_law_288 : decode cL_law 288 = .ok (.invokevirtual 32, 3) := by decide +kernel
theorem dL_law_291 : decode cL_law 291 = .ok (.if_icmp .eq 651, 3) := by decide +kernel
theorem dL_law_294 : decode cL_law 294 = .ok (.iconst 0, 1) := by decide +kernel
theorem dL_law_295 : decode cL_law 295 = .ok (.ireturn, 1) := by decide +kernel
theorem dL_law_296 : decode cL_law 296 = .ok (.aload_n 1, 1) := by decide +kernel
theorem dL_law_297 : decode cL_law 297 = .ok (.aload_n 0, 1) := by decide +kernel
theorem dL_law_298 : decode cL_law 298 = .ok (.iload_n 3, 1) := by decide +kernel
theorem dL_law_299 : decode cL_law 299 = .ok (.iconst 1, 1) := by decide +kernel
theorem dL_law_300 : decode cL_law 300 = .ok (.iadd, 1) := by decide +kernel
theorem dL_law_301 : decode cL_law 301 = .ok (.iaload, 1) := by decide +kernel
theorem dL_law_302 : decode cL_law 302 = .ok (.aload_n 0, 1) := by decide +kernel
theorem dL_law_303 : decode cL_law 303 = .ok (.iload_n 3, 1) := by decide +kernel
theorem dL_law_304 : decode cL_law 304 = .ok (.iconst 2, 1) := by decide +kernel
theorem dL_law_305 : decode cL_law 305 = .ok (.iadd, 1) := by decide +kernel
theorem dL_law_306 : decode cL_law 306 = .ok (.iaload, 1) := by decide +kernel
theorem dL_law_307 : decode cL_law 307 = .ok (.ifCond .eq 7, 3) := by decide +kernel
theorem dL_law_310 : decode cL_law 310 = .ok (.iconst 1, 1) := by decide +kernel
theorem dL_law_311 : decode cL_law 311 = .ok (.goto 4, 3) := by decide +kernel
theorem dL_law_314 : decode cL_law 314 = .ok (.iconst 0, 1) := by decide +kernel
theorem dL_law_315 : decode cL_law 315 = .ok (.aload_n 0, 1) := by decide +kernel
theorem dL_law_316 : decode cL_law 316 = .ok (.iload_n 3, 1) := by decide +kernel
theorem dL_law_317 : decode cL_law 317 = .ok (.iconst 3, 1) := by decide +kernel
theorem dL_law_318 : decode cL_law 318 = .ok (.iadd, 1) := by decide +kernel
theorem dL_law_319 : decode cL_law 319 = .ok (.iaload, 1) := by decide +kernel
theorem dL_law_320 : decode cL_law 320 = .ok (.aload_n 0, 1) := by decide +kernel
theorem dL_law_321 : decode cL_law 321 = .ok (.iload_n 3, 1) := by decide +kernel
theorem dL_law_322 : decode cL_law 322 = .ok (.iconst 4, 1) := by decide +kernel
theorem dL_law_323 : decode cL_law 323 = .ok (.iadd, 1) := by decide +kernel
theorem dL_law_324 : decode cL_law 324 = .ok (.iaload, 1) := by decide +kernel
theorem dL_law_325 : decode cL_law 325 = .ok (.invokevirtual 33, 3) := by decide +kernel
theorem dL_law_328 : decode cL_law 328 = .ok (.aload_n 2, 1) := by decide +kernel
theorem dL_law_329 : decode cL_law 329 = .ok (.aload_n 0, 1) := by decide +kernel
theorem dL_law_330 : decode cL_law 330 = .ok (.iload_n 3, 1) := by decide +kernel
theorem dL_law_331 : decode cL_law 331 = .ok (.iconst 1, 1) := by decide +kernel
theorem dL_law_332 : decode cL_law 332 = .ok (.iadd, 1) := by decide +kernel
theorem dL_law_333 : decode cL_law 333 = .ok (.iaload, 1) := by decide +kernel
theorem dL_law_334 : decode cL_law 334 = .ok (.aload_n 0, 1) := by decide +kernel
theorem dL_law_335 : decode cL_law 335 = .ok (.iload_n 3, 1) := by decide +kernel
theorem dL_law_336 : decode cL_law 336 = .ok (.iconst 2, 1) := by decide +kernel
theorem dL_law_337 : decode cL_law 337 = .ok (.iadd, 1) := by decide +kernel
theorem dL_law_338 : decode cL_law 338 = .ok (.iaload, 1) := by decide +kernel
theorem dL_law_339 : decode cL_law 339 = .ok (.ifCond .eq 7, 3) := by decide +kernel
theorem dL_law_342 : decode cL_law 342 = .ok (.iconst 1, 1) := by decide +kernel
theorem dL_law_343 : decode cL_law 343 = .ok (.goto 4, 3) := by decide +kernel
theorem dL_law_346 : decode cL_law 346 = .ok (.iconst 0, 1) := by decide +kernel
theorem dL_law_347 : decode cL_law 347 = .ok (.aload_n 0, 1) := by decide +kernel
theorem dL_law_348 : decode cL_law 348 = .ok (.iload_n 3, 1) := by decide +kernel
theorem dL_law_349 : decode cL_law 349 = .ok (.iconst 3, 1) := by decide +kernel
theorem dL_law_350 : decode cL_law 350 = .ok (.iadd, 1) := by decide +kernel
theorem dL_law_351 : decode cL_law 351 = .ok (.iaload, 1) := by decide +kernel
theorem dL_law_352 : decode cL_law 352 = .ok (.aload_n 0, 1) := by decide +kernel
theorem dL_law_353 : decode cL_law 353 = .ok (.iload_n 3, 1) := by decide +kernel
theorem dL_law_354 : decode cL_law 354 = .ok (.iconst 4, 1) := by decide +kernel
theorem dL_law_355 : decode cL_law 355 = .ok (.iadd, 1) := by decide +kernel
theorem dL_law_356 : decode cL_law 356 = .ok (.iaload, 1) := by decide +kernel
theorem dL_law_357 : decode cL_law 357 = .ok (.invokevirtual 37, 3) := by decide +kernel
theorem dL_law_360 : decode cL_law 360 = .ok (.if_icmp .eq 582, 3) := by decide +kernel
theorem dL_law_363 : decode cL_law 363 = .ok (.iconst 0, 1) := by decide +kernel
theorem dL_law_364 : decode cL_law 364 = .ok (.ireturn, 1) := by decide +kernel
theorem dL_law_365 : decode cL_law 365 = .ok (.aload_n 1, 1) := by decide +kernel
theorem dL_law_366 : decode cL_law 366 = .ok (.invokevirtual 38, 3) := by decide +kernel
theorem dL_law_369 : decode cL_law 369 = .ok (.aload_n 2, 1) := by decide +kernel
theorem dL_law_370 : decode cL_law 370 = .ok (.invokevirtual 42, 3) := by decide +kernel
theorem dL_law_373 : decode cL_law 373 = .ok (.if_icmp .eq 569, 3) := by decide +kernel
theorem dL_law_376 : decode cL_law 376 = .ok (.iconst 0, 1) := by decide +kernel
theorem dL_law_377 : decode cL_law 377 = .ok (.ireturn, 1) := by decide +kernel
theorem dL_law_378 : decode cL_law 378 = .ok (.aload_n 1, 1) := by decide +kernel
theorem dL_law_379 : decode cL_law 379 = .ok (.aload_n 0, 1) := by decide +kernel
theorem dL_law_380 : decode cL_law 380 = .ok (.iload_n 3, 1) := by decide +kernel
theorem dL_law_381 : decode cL_law 381 = .ok (.iconst 1, 1) := by decide +kernel
theorem dL_law_382 : decode cL_law 382 = .ok (.iadd, 1) := by decide +kernel
theorem dL_law_383 : decode cL_law 383 = .ok (.iaload, 1) := by decide +kernel
theorem dL_law_384 : decode cL_law 384 = .ok (.aload_n 0, 1) := by decide +kernel
theorem dL_law_385 : decode cL_law 385 = .ok (.iload_n 3, 1) := by decide +kernel
theorem dL_law_386 : decode cL_law 386 = .ok (.iconst 2, 1) := by decide +kernel
theorem dL_law_387 : decode cL_law 387 = .ok (.iadd, 1) := by decide +kernel
theorem dL_law_388 : decode cL_law 388 = .ok (.iaload, 1) := by decide +kernel
theorem dL_law_389 : decode cL_law 389 = .ok (.aload_n 0, 1) := by decide +kernel
theorem dL_law_390 : decode cL_law 390 = .ok (.iload_n 3, 1) := by decide +kernel
theorem dL_law_391 : decode cL_law 391 = .ok (.iconst 3, 1) := by decide +kernel
theorem dL_law_392 : decode cL_law 392 = .ok (.iadd, 1) := by decide +kernel
theorem dL_law_393 : decode cL_law 393 = .ok (.iaload, 1) := by decide +kernel
theorem dL_law_394 : decode cL_law 394 = .ok (.invokevirtual 43, 3) := by decide +kernel
theorem dL_law_397 : decode cL_law 397 = .ok (.aload_n 2, 1) := by decide +kernel
theorem dL_law_398 : decode cL_law 398 = .ok (.aload_n 0, 1) := by decide +kernel
theorem dL_law_399 : decode cL_law 399 = .ok (.iload_n 3, 1) := by decide +kernel
theorem dL_law_400 : decode cL_law 400 = .ok (.iconst 1, 1) := by decide +kernel
theorem dL_law_401 : decode cL_law 401 = .ok (.iadd, 1) := by decide +kernel
theorem dL_law_402 : decode cL_law 402 = .ok (.iaload, 1) := by decide +kernel
theorem dL_law_403 : decode cL_law 403 = .ok (.aload_n 0, 1) := by decide +kernel
theorem dL_law_404 : decode cL_law 404 = .ok (.iload_n 3, 1) := by decide +kernel
theorem dL_law_405 : decode cL_law 405 = .ok (.iconst 2, 1) := by decide +kernel
theorem dL_law_406 : decode cL_law 406 = .ok (.iadd, 1) := by decide +kernel
theorem dL_law_407 : decode cL_law 407 = .ok (.iaload, 1) := by decide +kernel
theorem dL_law_408 : decode cL_law 408 = .ok (.aload_n 0, 1) := by decide +kernel
theorem dL_law_409 : decode cL_law 409 = .ok (.iload_n 3, 1) := by decide +kernel
theorem dL_law_410 : decode cL_law 410 = .ok (.iconst 3, 1) := by decide +kernel
theorem dL_law_411 : decode cL_law 411 = .ok (.iadd, 1) := by decide +kernel
theorem dL_law_412 : decode cL_law 412 = .ok (.iaload, 1) := by decide +kernel
theorem dL_law_413 : decode cL_law 413 = .ok (.invokevirtual 47, 3) := by decide +kernel
theorem dL_law_416 : decode cL_law 416 = .ok (.if_icmp .eq 526, 3) := by decide +kernel
theorem dL_law_419 : decode cL_law 419 = .ok (.iconst 0, 1) := by decide +kernel
theorem dL_law_420 : decode cL_law 420 = .ok (.ireturn, 1) := by decide +kernel
theorem dL_law_421 : decode cL_law 421 = .ok (.aload_n 1, 1) := by decide +kernel
theorem dL_law_422 : decode cL_law 422 = .ok (.aload_n 0, 1) := by decide +kernel
theorem dL_law_423 : decode cL_law 423 = .ok (.iload_n 3, 1) := by decide +kernel
theorem dL_law_424 : decode cL_law 424 = .ok (.iconst 1, 1) := by decide +kernel
theorem dL_law_425 : decode cL_law 425 = .ok (.iadd, 1) := by decide +kernel
theorem dL_law_426 : decode cL_law 426 = .ok (.iaload, 1) := by decide +kernel
theorem dL_law_427 : decode cL_law 427 = .ok (.invokevirtual 48, 3) := by decide +kernel
theorem dL_law_430 : decode cL_law 430 = .ok (.aload_n 2, 1) := by decide +kernel
theorem dL_law_431 : decode cL_law 431 = .ok (.aload_n 0, 1) := by decide +kernel
theorem dL_law_432 : decode cL_law 432 = .ok (.iload_n 3, 1) := by decide +kernel
theorem dL_law_433 : decode cL_law 433 = .ok (.iconst 1, 1) := by decide +kernel
theorem dL_law_434 : decode cL_law 434 = .ok (.iadd, 1) := by decide +kernel
theorem dL_law_435 : decode cL_law 435 = .ok (.iaload, 1) := by decide +kernel
theorem dL_law_436 : decode cL_law 436 = .ok (.invokevirtual 51, 3) := by decide +kernel
theorem dL_law_439 : decode cL_law 439 = .ok (.if_icmp .eq 503, 3) := by decide +kernel
theorem dL_law_442 : decode cL_law 442 = .ok (.iconst 0, 1) := by decide +kernel
theorem dL_law_443 : decode cL_law 443 = .ok (.ireturn, 1) := by decide +kernel
theorem dL_law_444 : decode cL_law 444 = .ok (.aload_n 1, 1) := by decide +kernel
theorem dL_law_445 : decode cL_law 445 = .ok (.aload_n 0, 1) := by decide +kernel
theorem dL_law_446 : decode cL_law 446 = .ok (.iload_n 3, 1) := by decide +kernel
theorem dL_law_447 : decode cL_law 447 = .ok (.iconst 1, 1) := by decide +kernel
theorem dL_law_448 : decode cL_law 448 = .ok (.iadd, 1) := by decide +kernel
theorem dL_law_449 : decode cL_law 449 = .ok (.iaload, 1) := by decide +kernel
theorem dL_law_450 : decode cL_law 450 = .ok (.aload_n 0, 1) := by decide +kernel
theorem dL_law_451 : decode cL_law 451 = .ok (.iload_n 3, 1) := by decide +kernel
theorem dL_law_452 : decode cL_law 452 = .ok (.iconst 2, 1) := by decide +kernel
theorem dL_law_453 : decode cL_law 453 = .ok (.iadd, 1) := by decide +kernel
theorem dL_law_454 : decode cL_law 454 = .ok (.iaload, 1) := by decide +kernel
theorem dL_law_455 : decode cL_law 455 = .ok (.invokevirtual 52, 3) := by decide +kernel
theorem dL_law_458 : decode cL_law 458 = .ok (.aload_n 2, 1) := by decide +kernel
theorem dL_law_459 : decode cL_law 459 = .ok (.aload_n 0, 1) := by decide +kernel
theorem dL_law_460 : decode cL_law 460 = .ok (.iload_n 3, 1) := by decide +kernel
theorem dL_law_461 : decode cL_law 461 = .ok (.iconst 1, 1) := by decide +kernel
theorem dL_law_462 : decode cL_law 462 = .ok (.iadd, 1) := by decide +kernel
theorem dL_law_463 : decode cL_law 463 = .ok (.iaload, 1) := by decide +kernel
theorem dL_law_464 : decode cL_law 464 = .ok (.aload_n 0, 1) := by decide +kernel
theorem dL_law_465 : decode cL_law 465 = .ok (.iload_n 3, 1) := by decide +kernel
theorem dL_law_466 : decode cL_law 466 = .ok (.iconst 2, 1) := by decide +kernel
theorem dL_law_467 : decode cL_law 467 = .ok (.iadd, 1) := by decide +kernel
theorem dL_law_468 : decode cL_law 468 = .ok (.iaload, 1) := by decide +kernel
theorem dL_law_469 : decode cL_law 469 = .ok (.invokevirtual 56, 3) := by decide +kernel
theorem dL_law_472 : decode cL_law 472 = .ok (.if_icmp .eq 470, 3) := by decide +kernel
theorem dL_law_475 : decode cL_law 475 = .ok (.iconst 0, 1) := by decide +kernel
theorem dL_law_476 : decode cL_law 476 = .ok (.ireturn, 1) := by decide +kernel
theorem dL_law_477 : decode cL_law 477 = .ok (.aload_n 1, 1) := by decide +kernel
theorem dL_law_478 : decode cL_law 478 = .ok (.aload_n 0, 1) := by decide +kernel
theorem dL_law_479 : decode cL_law 479 = .ok (.iload_n 3, 1) := by decide +kernel
theorem dL_law_480 : decode cL_law 480 = .ok (.iconst 1, 1) := by decide +kernel
theorem dL_law_481 : decode cL_law 481 = .ok (.iadd, 1) := by decide +kernel
theorem dL_law_482 : decode cL_law 482 = .ok (.iaload, 1) := by decide +kernel
theorem dL_law_483 : decode cL_law 483 = .ok (.aload_n 0, 1) := by decide +kernel
theorem dL_law_484 : decode cL_law 484 = .ok (.iload_n 3, 1) := by decide +kernel
theorem dL_law_485 : decode cL_law 485 = .ok (.iconst 2, 1) := by decide +kernel
theorem dL_law_486 : decode cL_law 486 = .ok (.iadd, 1) := by decide +kernel
theorem dL_law_487 : decode cL_law 487 = .ok (.iaload, 1) := by decide +kernel
theorem dL_law_488 : decode cL_law 488 = .ok (.invokevirtual 57, 3) := by decide +kernel
theorem dL_law_491 : decode cL_law 491 = .ok (.aload_n 2, 1) := by decide +kernel
theorem dL_law_492 : decode cL_law 492 = .ok (.aload_n 0, 1) := by decide +kernel
theorem dL_law_493 : decode cL_law 493 = .ok (.iload_n 3, 1) := by decide +kernel
theorem dL_law_494 : decode cL_law 494 = .ok (.iconst 1, 1) := by decide +kernel
theorem dL_law_495 : decode cL_law 495 = .ok (.iadd, 1) := by decide +kernel
theorem dL_law_496 : decode cL_law 496 = .ok (.iaload, 1) := by decide +kernel
theorem dL_law_497 : decode cL_law 497 = .ok (.aload_n 0, 1) := by decide +kernel
theorem dL_law_498 : decode cL_law 498 = .ok (.iload_n 3, 1) := by decide +kernel
theorem dL_law_499 : decode cL_law 499 = .ok (.iconst 2, 1) := by decide +kernel
theorem dL_law_500 : decode cL_law 500 = .ok (.iadd, 1) := by decide +kernel
theorem dL_law_501 : decode cL_law 501 = .ok (.iaload, 1) := by decide +kernel
theorem dL_law_502 : decode cL_law 502 = .ok (.invokevirtual 60, 3) := by decide +kernel
theorem dL_law_505 : decode cL_law 505 = .ok (.if_icmp .eq 437, 3) := by decide +kernel
theorem dL_law_508 : decode cL_law 508 = .ok (.iconst 0, 1) := by decide +kernel
theorem dL_law_509 : decode cL_law 509 = .ok (.ireturn, 1) := by decide +kernel
theorem dL_law_510 : decode cL_law 510 = .ok (.aload_n 1, 1) := by decide +kernel
theorem dL_law_511 : decode cL_law 511 = .ok (.aload_n 0, 1) := by decide +kernel
theorem dL_law_512 : decode cL_law 512 = .ok (.iload_n 3, 1) := by decide +kernel
theorem dL_law_513 : decode cL_law 513 = .ok (.iconst 1, 1) := by decide +kernel
theorem dL_law_514 : decode cL_law 514 = .ok (.iadd, 1) := by decide +kernel
theorem dL_law_515 : decode cL_law 515 = .ok (.iaload, 1) := by decide +kernel
theorem dL_law_516 : decode cL_law 516 = .ok (.aload_n 0, 1) := by decide +kernel
theorem dL_law_517 : decode cL_law 517 = .ok (.iload_n 3, 1) := by decide +kernel
theorem dL_law_518 : decode cL_law 518 = .ok (.iconst 2, 1) := by decide +kernel
theorem dL_law_519 : decode cL_law 519 = .ok (.iadd, 1) := by decide +kernel
theorem dL_law_520 : decode cL_law 520 = .ok (.iaload, 1) := by decide +kernel
theorem dL_law_521 : decode cL_law 521 = .ok (.invokevirtual 61, 3) := by decide +kernel
theorem dL_law_524 : decode cL_law 524 = .ok (.aload_n 2, 1) := by decide +kernel
theorem dL_law_525 : decode cL_law 525 = .ok (.aload_n 0, 1) := by decide +kernel
theorem dL_law_526 : decode cL_law 526 = .ok (.iload_n 3, 1) := by decide +kernel
theorem dL_law_527 : decode cL_law 527 = .ok (.iconst 1, 1) := by decide +kernel
theorem dL_law_528 : decode cL_law 528 = .ok (.iadd, 1) := by decide +kernel
theorem dL_law_529 : decode cL_law 529 = .ok (.iaload, 1) := by decide +kernel
theorem dL_law_530 : decode cL_law 530 = .ok (.aload_n 0, 1) := by decide +kernel
theorem dL_law_531 : decode cL_law 531 = .ok (.iload_n 3, 1) := by decide +kernel
theorem dL_law_532 : decode cL_law 532 = .ok (.iconst 2, 1) := by decide +kernel
theorem dL_law_533 : decode cL_law 533 = .ok (.iadd, 1) := by decide +kernel
theorem dL_law_534 : decode cL_law 534 = .ok (.iaload, 1) := by decide +kernel
theorem dL_law_535 : decode cL_law 535 = .ok (.invokevirtual 64, 3) := by decide +kernel
theorem dL_law_538 : decode cL_law 538 = .ok (.if_icmp .eq 404, 3) := by decide +kernel
theorem dL_law_541 : decode cL_law 541 = .ok (.iconst 0, 1) := by decide +kernel
theorem dL_law_542 : decode cL_law 542 = .ok (.ireturn, 1) := by decide +kernel
theorem dL_law_543 : decode cL_law 543 = .ok (.aload_n 1, 1) := by decide +kernel
theorem dL_law_544 : decode cL_law 544 = .ok (.aload_n 0, 1) := by decide +kernel
theorem dL_law_545 : decode cL_law 545 = .ok (.iload_n 3, 1) := by decide +kernel
theorem dL_law_546 : decode cL_law 546 = .ok (.iconst 1, 1) := by decide +kernel
theorem dL_law_547 : decode cL_law 547 = .ok (.iadd, 1) := by decide +kernel
theorem dL_law_548 : decode cL_law 548 = .ok (.iaload, 1) := by decide +kernel
theorem dL_law_549 : decode cL_law 549 = .ok (.aload_n 0, 1) := by decide +kernel
theorem dL_law_550 : decode cL_law 550 = .ok (.iload_n 3, 1) := by decide +kernel
theorem dL_law_551 : decode cL_law 551 = .ok (.iconst 2, 1) := by decide +kernel
theorem dL_law_552 : decode cL_law 552 = .ok (.iadd, 1) := by decide +kernel
theorem dL_law_553 : decode cL_law 553 = .ok (.iaload, 1) := by decide +kernel
theorem dL_law_554 : decode cL_law 554 = .ok (.invokevirtual 65, 3) := by decide +kernel
theorem dL_law_557 : decode cL_law 557 = .ok (.aload_n 2, 1) := by decide +kernel
theorem dL_law_558 : decode cL_law 558 = .ok (.aload_n 0, 1) := by decide +kernel
theorem dL_law_559 : decode cL_law 559 = .ok (.iload_n 3, 1) := by decide +kernel
theorem dL_law_560 : decode cL_law 560 = .ok (.iconst 1, 1) := by decide +kernel
theorem dL_law_561 : decode cL_law 561 = .ok (.iadd, 1) := by decide +kernel
theorem dL_law_562 : decode cL_law 562 = .ok (.iaload, 1) := by decide +kernel
theorem dL_law_563 : decode cL_law 563 = .ok (.aload_n 0, 1) := by decide +kernel
theorem dL_law_564 : decode cL_law 564 = .ok (.iload_n 3, 1) := by decide +kernel
theorem dL_law_565 : decode cL_law 565 = .ok (.iconst 2, 1) := by decide +kernel
theorem dL_law_566 : decode cL_law 566 = .ok (.iadd, 1) := by decide +kernel
theorem dL_law_567 : decode cL_law 567 = .ok (.iaload, 1) := by decide +kernel
theorem dL_law_568 : decode cL_law 568 = .ok (.invokevirtual 68, 3) := by decide +kernel
theorem dL_law_571 : decode cL_law 571 = .ok (.if_icmp .eq 371, 3) := by decide +kernel
theorem dL_law_574 : decode cL_law 574 = .ok (.iconst 0, 1) := by decide +kernel
theorem dL_law_575 : decode cL_law 575 = .ok (.ireturn, 1) := by decide +kernel
theorem dL_law_576 : decode cL_law 576 = .ok (.aload_n 1, 1) := by decide +kernel
theorem dL_law_577 : decode cL_law 577 = .ok (.aload_n 0, 1) := by decide +kernel
theorem dL_law_578 : decode cL_law 578 = .ok (.iload_n 3, 1) := by decide +kernel
theorem dL_law_579 : decode cL_law 579 = .ok (.iconst 1, 1) := by decide +kernel
theorem dL_law_580 : decode cL_law 580 = .ok (.iadd, 1) := by decide +kernel
theorem dL_law_581 : decode cL_law 581 = .ok (.iaload, 1) := by decide +kernel
theorem dL_law_582 : decode cL_law 582 = .ok (.aload_n 0, 1) := by decide +kernel
theorem dL_law_583 : decode cL_law 583 = .ok (.iload_n 3, 1) := by decide +kernel
theorem dL_law_584 : decode cL_law 584 = .ok (.iconst 2, 1) := by decide +kernel
theorem dL_law_585 : decode cL_law 585 = .ok (.iadd, 1) := by decide +kernel
theorem dL_law_586 : decode cL_law 586 = .ok (.iaload, 1) := by decide +kernel
theorem dL_law_587 : decode cL_law 587 = .ok (.aload_n 0, 1) := by decide +kernel
theorem dL_law_588 : decode cL_law 588 = .ok (.iload_n 3, 1) := by decide +kernel
theorem dL_law_589 : decode cL_law 589 = .ok (.iconst 3, 1) := by decide +kernel
theorem dL_law_590 : decode cL_law 590 = .ok (.iadd, 1) := by decide +kernel
theorem dL_law_591 : decode cL_law 591 = .ok (.iaload, 1) := by decide +kernel
theorem dL_law_592 : decode cL_law 592 = .ok (.invokevirtual 69, 3) := by decide +kernel
theorem dL_law_595 : decode cL_law 595 = .ok (.aload_n 2, 1) := by decide +kernel
theorem dL_law_596 : decode cL_law 596 = .ok (.aload_n 0, 1) := by decide +kernel
theorem dL_law_597 : decode cL_law 597 = .ok (.iload_n 3, 1) := by decide +kernel
theorem dL_law_598 : decode cL_law 598 = .ok (.iconst 1, 1) := by decide +kernel
theorem dL_law_599 : decode cL_law 599 = .ok (.iadd, 1) := by decide +kernel
theorem dL_law_600 : decode cL_law 600 = .ok (.iaload, 1) := by decide +kernel
theorem dL_law_601 : decode cL_law 601 = .ok (.aload_n 0, 1) := by decide +kernel
theorem dL_law_602 : decode cL_law 602 = .ok (.iload_n 3, 1) := by decide +kernel
theorem dL_law_603 : decode cL_law 603 = .ok (.iconst 2, 1) := by decide +kernel
theorem dL_law_604 : decode cL_law 604 = .ok (.iadd, 1) := by decide +kernel
theorem dL_law_605 : decode cL_law 605 = .ok (.iaload, 1) := by decide +kernel
theorem dL_law_606 : decode cL_law 606 = .ok (.aload_n 0, 1) := by decide +kernel
theorem dL_law_607 : decode cL_law 607 = .ok (.iload_n 3, 1) := by decide +kernel
theorem dL_law_608 : decode cL_law 608 = .ok (.iconst 3, 1) := by decide +kernel
theorem dL_law_609 : decode cL_law 609 = .ok (.iadd, 1) := by decide +kernel
theorem dL_law_610 : decode cL_law 610 = .ok (.iaload, 1) := by decide +kernel
theorem dL_law_611 : decode cL_law 611 = .ok (.invokevirtual 72, 3) := by decide +kernel
theorem dL_law_614 : decode cL_law 614 = .ok (.if_icmp .eq 328, 3) := by decide +kernel
theorem dL_law_617 : decode cL_law 617 = .ok (.iconst 0, 1) := by decide +kernel
theorem dL_law_618 : decode cL_law 618 = .ok (.ireturn, 1) := by decide +kernel
theorem dL_law_619 : decode cL_law 619 = .ok (.aload_n 1, 1) := by decide +kernel
theorem dL_law_620 : decode cL_law 620 = .ok (.invokevirtual 73, 3) := by decide +kernel
theorem dL_law_623 : decode cL_law 623 = .ok (.aload_n 2, 1) := by decide +kernel
theorem dL_law_624 : decode cL_law 624 = .ok (.invokevirtual 76, 3) := by decide +kernel
theorem dL_law_627 : decode cL_law 627 = .ok (.if_icmp .eq 315, 3) := by decide +kernel
theorem dL_law_630 : decode cL_law 630 = .ok (.iconst 0, 1) := by decide +kernel
theorem dL_law_631 : decode cL_law 631 = .ok (.ireturn, 1) := by decide +kernel
theorem dL_law_632 : decode cL_law 632 = .ok (.aload_n 1, 1) := by decide +kernel
theorem dL_law_633 : decode cL_law 633 = .ok (.aload_n 0, 1) := by decide +kernel
theorem dL_law_634 : decode cL_law 634 = .ok (.iload_n 3, 1) := by decide +kernel
theorem dL_law_635 : decode cL_law 635 = .ok (.iconst 1, 1) := by decide +kernel
theorem dL_law_636 : decode cL_law 636 = .ok (.iadd, 1) := by decide +kernel
theorem dL_law_637 : decode cL_law 637 = .ok (.iaload, 1) := by decide +kernel
theorem dL_law_638 : decode cL_law 638 = .ok (.aload_n 0, 1) := by decide +kernel
theorem dL_law_639 : decode cL_law 639 = .ok (.iload_n 3, 1) := by decide +kernel
theorem dL_law_640 : decode cL_law 640 = .ok (.iconst 2, 1) := by decide +kernel
theorem dL_law_641 : decode cL_law 641 = .ok (.iadd, 1) := by decide +kernel
theorem dL_law_642 : decode cL_law 642 = .ok (.iaload, 1) := by decide +kernel
theorem dL_law_643 : decode cL_law 643 = .ok (.invokevirtual 77, 3) := by decide +kernel
theorem dL_law_646 : decode cL_law 646 = .ok (.aload_n 2, 1) := by decide +kernel
theorem dL_law_647 : decode cL_law 647 = .ok (.aload_n 0, 1) := by decide +kernel
theorem dL_law_648 : decode cL_law 648 = .ok (.iload_n 3, 1) := by decide +kernel
theorem dL_law_649 : decode cL_law 649 = .ok (.iconst 1, 1) := by decide +kernel
theorem dL_law_650 : decode cL_law 650 = .ok (.iadd, 1) := by decide +kernel
theorem dL_law_651 : decode cL_law 651 = .ok (.iaload, 1) := by decide +kernel
theorem dL_law_652 : decode cL_law 652 = .ok (.aload_n 0, 1) := by decide +kernel
theorem dL_law_653 : decode cL_law 653 = .ok (.iload_n 3, 1) := by decide +kernel
theorem dL_law_654 : decode cL_law 654 = .ok (.iconst 2, 1) := by decide +kernel
theorem dL_law_655 : decode cL_law 655 = .ok (.iadd, 1) := by decide +kernel
theorem dL_law_656 : decode cL_law 656 = .ok (.iaload, 1) := by decide +kernel
theorem dL_law_657 : decode cL_law 657 = .ok (.invokevirtual 80, 3) := by decide +kernel
theorem dL_law_660 : decode cL_law 660 = .ok (.if_icmp .eq 282, 3) := by decide +kernel
theorem dL_law_663 : decode cL_law 663 = .ok (.iconst 0, 1) := by decide +kernel
theorem dL_law_664 : decode cL_law 664 = .ok (.ireturn, 1) := by decide +kernel
theorem dL_law_665 : decode cL_law 665 = .ok (.aload_n 1, 1) := by decide +kernel
theorem dL_law_666 : decode cL_law 666 = .ok (.aload_n 0, 1) := by decide +kernel
theorem dL_law_667 : decode cL_law 667 = .ok (.iload_n 3, 1) := by decide +kernel
theorem dL_law_668 : decode cL_law 668 = .ok (.iconst 1, 1) := by decide +kernel
theorem dL_law_669 : decode cL_law 669 = .ok (.iadd, 1) := by decide +kernel
theorem dL_law_670 : decode cL_law 670 = .ok (.iaload, 1) := by decide +kernel
theorem dL_law_671 : decode cL_law 671 = .ok (.invokevirtual 81, 3) := by decide +kernel
theorem dL_law_674 : decode cL_law 674 = .ok (.aload_n 2, 1) := by decide +kernel
theorem dL_law_675 : decode cL_law 675 = .ok (.aload_n 0, 1) := by decide +kernel
theorem dL_law_676 : decode cL_law 676 = .ok (.iload_n 3, 1) := by decide +kernel
theorem dL_law_677 : decode cL_law 677 = .ok (.iconst 1, 1) := by decide +kernel
theorem dL_law_678 : decode cL_law 678 = .ok (.iadd, 1) := by decide +kernel
theorem dL_law_679 : decode cL_law 679 = .ok (.iaload, 1) := by decide +kernel
theorem dL_law_680 : decode cL_law 680 = .ok (.invokevirtual 84, 3) := by decide +kernel
theorem dL_law_683 : decode cL_law 683 = .ok (.if_icmp .eq 259, 3) := by decide +kernel
theorem dL_law_686 : decode cL_law 686 = .ok (.iconst 0, 1) := by decide +kernel
theorem dL_law_687 : decode cL_law 687 = .ok (.ireturn, 1) := by decide +kernel
theorem dL_law_688 : decode cL_law 688 = .ok (.aload_n 1, 1) := by decide +kernel
theorem dL_law_689 : decode cL_law 689 = .ok (.aload_n 0, 1) := by decide +kernel
theorem dL_law_690 : decode cL_law 690 = .ok (.iload_n 3, 1) := by decide +kernel
theorem dL_law_691 : decode cL_law 691 = .ok (.iconst 1, 1) := by decide +kernel
theorem dL_law_692 : decode cL_law 692 = .ok (.iadd, 1) := by decide +kernel
theorem dL_law_693 : decode cL_law 693 = .ok (.iaload, 1) := by decide +kernel
theorem dL_law_694 : decode cL_law 694 = .ok (.aload_n 0, 1) := by decide +kernel
theorem dL_law_695 : decode cL_law 695 = .ok (.iload_n 3, 1) := by decide +kernel
theorem dL_law_696 : decode cL_law 696 = .ok (.iconst 2, 1) := by decide +kernel
theorem dL_law_697 : decode cL_law 697 = .ok (.iadd, 1) := by decide +kernel
theorem dL_law_698 : decode cL_law 698 = .ok (.iaload, 1) := by decide +kernel
theorem dL_law_699 : decode cL_law 699 = .ok (.invokevirtual 85, 3) := by decide +kernel
theorem dL_law_702 : decode cL_law 702 = .ok (.aload_n 2, 1) := by decide +kernel
theorem dL_law_703 : decode cL_law 703 = .ok (.aload_n 0, 1) := by decide +kernel
theorem dL_law_704 : decode cL_law 704 = .ok (.iload_n 3, 1) := by decide +kernel
theorem dL_law_705 : decode cL_law 705 = .ok (.iconst 1, 1) := by decide +kernel
theorem dL_law_706 : decode cL_law 706 = .ok (.iadd, 1) := by decide +kernel
theorem dL_law_707 : decode cL_law 707 = .ok (.iaload, 1) := by decide +kernel
theorem dL_law_708 : decode cL_law 708 = .ok (.aload_n 0, 1) := by decide +kernel
theorem dL_law_709 : decode cL_law 709 = .ok (.iload_n 3, 1) := by decide +kernel
theorem dL_law_710 : decode cL_law 710 = .ok (.iconst 2, 1) := by decide +kernel
theorem dL_law_711 : decode cL_law 711 = .ok (.iadd, 1) := by decide +kernel
theorem dL_law_712 : decode cL_law 712 = .ok (.iaload, 1) := by decide +kernel
theorem dL_law_713 : decode cL_law 713 = .ok (.invokevirtual 88, 3) := by decide +kernel
theorem dL_law_716 : decode cL_law 716 = .ok (.if_icmp .eq 226, 3) := by decide +kernel
theorem dL_law_719 : decode cL_law 719 = .ok (.iconst 0, 1) := by decide +kernel
theorem dL_law_720 : decode cL_law 720 = .ok (.ireturn, 1) := by decide +kernel
theorem dL_law_721 : decode cL_law 721 = .ok (.aload_n 1, 1) := by decide +kernel
theorem dL_law_722 : decode cL_law 722 = .ok (.aload_n 0, 1) := by decide +kernel
theorem dL_law_723 : decode cL_law 723 = .ok (.iload_n 3, 1) := by decide +kernel
theorem dL_law_724 : decode cL_law 724 = .ok (.iconst 1, 1) := by decide +kernel
theorem dL_law_725 : decode cL_law 725 = .ok (.iadd, 1) := by decide +kernel
theorem dL_law_726 : decode cL_law 726 = .ok (.iaload, 1) := by decide +kernel
theorem dL_law_727 : decode cL_law 727 = .ok (.aload_n 0, 1) := by decide +kernel
theorem dL_law_728 : decode cL_law 728 = .ok (.iload_n 3, 1) := by decide +kernel
theorem dL_law_729 : decode cL_law 729 = .ok (.iconst 2, 1) := by decide +kernel
theorem dL_law_730 : decode cL_law 730 = .ok (.iadd, 1) := by decide +kernel
theorem dL_law_731 : decode cL_law 731 = .ok (.iaload, 1) := by decide +kernel
theorem dL_law_732 : decode cL_law 732 = .ok (.invokevirtual 89, 3) := by decide +kernel
theorem dL_law_735 : decode cL_law 735 = .ok (.aload_n 2, 1) := by decide +kernel
theorem dL_law_736 : decode cL_law 736 = .ok (.aload_n 0, 1) := by decide +kernel
theorem dL_law_737 : decode cL_law 737 = .ok (.iload_n 3, 1) := by decide +kernel
theorem dL_law_738 : decode cL_law 738 = .ok (.iconst 1, 1) := by decide +kernel
theorem dL_law_739 : decode cL_law 739 = .ok (.iadd, 1) := by decide +kernel
theorem dL_law_740 : decode cL_law 740 = .ok (.iaload, 1) := by decide +kernel
theorem dL_law_741 : decode cL_law 741 = .ok (.aload_n 0, 1) := by decide +kernel
theorem dL_law_742 : decode cL_law 742 = .ok (.iload_n 3, 1) := by decide +kernel
theorem dL_law_743 : decode cL_law 743 = .ok (.iconst 2, 1) := by decide +kernel
theorem dL_law_744 : decode cL_law 744 = .ok (.iadd, 1) := by decide +kernel
theorem dL_law_745 : decode cL_law 745 = .ok (.iaload, 1) := by decide +kernel
theorem dL_law_746 : decode cL_law 746 = .ok (.invokevirtual 92, 3) := by decide +kernel
theorem dL_law_749 : decode cL_law 749 = .ok (.if_icmp .eq 193, 3) := by decide +kernel
theorem dL_law_752 : decode cL_law 752 = .ok (.iconst 0, 1) := by decide +kernel
theorem dL_law_753 : decode cL_law 753 = .ok (.ireturn, 1) := by decide +kernel
theorem dL_law_754 : decode cL_law 754 = .ok (.aload_n 1, 1) := by decide +kernel
theorem dL_law_755 : decode cL_law 755 = .ok (.aload_n 0, 1) := by decide +kernel
theorem dL_law_756 : decode cL_law 756 = .ok (.iload_n 3, 1) := by decide +kernel
theorem dL_law_757 : decode cL_law 757 = .ok (.iconst 1, 1) := by decide +kernel
theorem dL_law_758 : decode cL_law 758 = .ok (.iadd, 1) := by decide +kernel
theorem dL_law_759 : decode cL_law 759 = .ok (.iaload, 1) := by decide +kernel
theorem dL_law_760 : decode cL_law 760 = .ok (.invokevirtual 93, 3) := by decide +kernel
theorem dL_law_763 : decode cL_law 763 = .ok (.aload_n 2, 1) := by decide +kernel
theorem dL_law_764 : decode cL_law 764 = .ok (.aload_n 0, 1) := by decide +kernel
theorem dL_law_765 : decode cL_law 765 = .ok (.iload_n 3, 1) := by decide +kernel
theorem dL_law_766 : decode cL_law 766 = .ok (.iconst 1, 1) := by decide +kernel
theorem dL_law_767 : decode cL_law 767 = .ok (.iadd, 1) := by decide +kernel
theorem dL_law_768 : decode cL_law 768 = .ok (.iaload, 1) := by decide +kernel
theorem dL_law_769 : decode cL_law 769 = .ok (.invokevirtual 96, 3) := by decide +kernel
theorem dL_law_772 : decode cL_law 772 = .ok (.if_icmp .eq 170, 3) := by decide +kernel
theorem dL_law_775 : decode cL_law 775 = .ok (.iconst 0, 1) := by decide +kernel
theorem dL_law_776 : decode cL_law 776 = .ok (.ireturn, 1) := by decide +kernel
theorem dL_law_777 : decode cL_law 777 = .ok (.aload_n 1, 1) := by decide +kernel
theorem dL_law_778 : decode cL_law 778 = .ok (.aload_n 0, 1) := by decide +kernel
theorem dL_law_779 : decode cL_law 779 = .ok (.iload_n 3, 1) := by decide +kernel
theorem dL_law_780 : decode cL_law 780 = .ok (.iconst 1, 1) := by decide +kernel
theorem dL_law_781 : decode cL_law 781 = .ok (.iadd, 1) := by decide +kernel
theorem dL_law_782 : decode cL_law 782 = .ok (.iaload, 1) := by decide +kernel
theorem dL_law_783 : decode cL_law 783 = .ok (.aload_n 0, 1) := by decide +kernel
theorem dL_law_784 : decode cL_law 784 = .ok (.iload_n 3, 1) := by decide +kernel
theorem dL_law_785 : decode cL_law 785 = .ok (.iconst 2, 1) := by decide +kernel
theorem dL_law_786 : decode cL_law 786 = .ok (.iadd, 1) := by decide +kernel
theorem dL_law_787 : decode cL_law 787 = .ok (.iaload, 1) := by decide +kernel
theorem dL_law_788 : decode cL_law 788 = .ok (.invokevirtual 97, 3) := by decide +kernel
theorem dL_law_791 : decode cL_law 791 = .ok (.aload_n 2, 1) := by decide +kernel
theorem dL_law_792 : decode cL_law 792 = .ok (.aload_n 0, 1) := by decide +kernel
theorem dL_law_793 : decode cL_law 793 = .ok (.iload_n 3, 1) := by decide +kernel
theorem dL_law_794 : decode cL_law 794 = .ok (.iconst 1, 1) := by decide +kernel
theorem dL_law_795 : decode cL_law 795 = .ok (.iadd, 1) := by decide +kernel
theorem dL_law_796 : decode cL_law 796 = .ok (.iaload, 1) := by decide +kernel
theorem dL_law_797 : decode cL_law 797 = .ok (.aload_n 0, 1) := by decide +kernel
theorem dL_law_798 : decode cL_law 798 = .ok (.iload_n 3, 1) := by decide +kernel
theorem dL_law_799 : decode cL_law 799 = .ok (.iconst 2, 1) := by decide +kernel
theorem dL_law_800 : decode cL_law 800 = .ok (.iadd, 1) := by decide +kernel
theorem dL_law_801 : decode cL_law 801 = .ok (.iaload, 1) := by decide +kernel
theorem dL_law_802 : decode cL_law 802 = .ok (.invokevirtual 100, 3) := by decide +kernel
theorem dL_law_805 : decode cL_law 805 = .ok (.if_icmp .eq 137, 3) := by decide +kernel
theorem dL_law_808 : decode cL_law 808 = .ok (.iconst 0, 1) := by decide +kernel
theorem dL_law_809 : decode cL_law 809 = .ok (.ireturn, 1) := by decide +kernel
theorem dL_law_810 : decode cL_law 810 = .ok (.aload_n 1, 1) := by decide +kernel
theorem dL_law_811 : decode cL_law 811 = .ok (.invokevirtual 101, 3) := by decide +kernel
theorem dL_law_814 : decode cL_law 814 = .ok (.aload_n 2, 1) := by decide +kernel
theorem dL_law_815 : decode cL_law 815 = .ok (.invokevirtual 104, 3) := by decide +kernel
theorem dL_law_818 : decode cL_law 818 = .ok (.if_icmp .eq 124, 3) := by decide +kernel
theorem dL_law_821 : decode cL_law 821 = .ok (.iconst 0, 1) := by decide +kernel
theorem dL_law_822 : decode cL_law 822 = .ok (.ireturn, 1) := by decide +kernel
theorem dL_law_823 : decode cL_law 823 = .ok (.aload_n 1, 1) := by decide +kernel
theorem dL_law_824 : decode cL_law 824 = .ok (.aload_n 0, 1) := by decide +kernel
theorem dL_law_825 : decode cL_law 825 = .ok (.iload_n 3, 1) := by decide +kernel
theorem dL_law_826 : decode cL_law 826 = .ok (.iconst 1, 1) := by decide +kernel
theorem dL_law_827 : decode cL_law 827 = .ok (.iadd, 1) := by decide +kernel
theorem dL_law_828 : decode cL_law 828 = .ok (.iaload, 1) := by decide +kernel
theorem dL_law_829 : decode cL_law 829 = .ok (.aload_n 0, 1) := by decide +kernel
theorem dL_law_830 : decode cL_law 830 = .ok (.iload_n 3, 1) := by decide +kernel
theorem dL_law_831 : decode cL_law 831 = .ok (.iconst 2, 1) := by decide +kernel
theorem dL_law_832 : decode cL_law 832 = .ok (.iadd, 1) := by decide +kernel
theorem dL_law_833 : decode cL_law 833 = .ok (.iaload, 1) := by decide +kernel
theorem dL_law_834 : decode cL_law 834 = .ok (.invokevirtual 105, 3) := by decide +kernel
theorem dL_law_837 : decode cL_law 837 = .ok (.aload_n 2, 1) := by decide +kernel
theorem dL_law_838 : decode cL_law 838 = .ok (.aload_n 0, 1) := by decide +kernel
theorem dL_law_839 : decode cL_law 839 = .ok (.iload_n 3, 1) := by decide +kernel
theorem dL_law_840 : decode cL_law 840 = .ok (.iconst 1, 1) := by decide +kernel
theorem dL_law_841 : decode cL_law 841 = .ok (.iadd, 1) := by decide +kernel
theorem dL_law_842 : decode cL_law 842 = .ok (.iaload, 1) := by decide +kernel
theorem dL_law_843 : decode cL_law 843 = .ok (.aload_n 0, 1) := by decide +kernel
theorem dL_law_844 : decode cL_law 844 = .ok (.iload_n 3, 1) := by decide +kernel
theorem dL_law_845 : decode cL_law 845 = .ok (.iconst 2, 1) := by decide +kernel
theorem dL_law_846 : decode cL_law 846 = .ok (.iadd, 1) := by decide +kernel
theorem dL_law_847 : decode cL_law 847 = .ok (.iaload, 1) := by decide +kernel
theorem dL_law_848 : decode cL_law 848 = .ok (.invokevirtual 108, 3) := by decide +kernel
theorem dL_law_851 : decode cL_law 851 = .ok (.if_icmp .eq 91, 3) := by decide +kernel
theorem dL_law_854 : decode cL_law 854 = .ok (.iconst 0, 1) := by decide +kernel
theorem dL_law_855 : decode cL_law 855 = .ok (.ireturn, 1) := by decide +kernel
theorem dL_law_856 : decode cL_law 856 = .ok (.aload_n 1, 1) := by decide +kernel
theorem dL_law_857 : decode cL_law 857 = .ok (.aload_n 0, 1) := by decide +kernel
theorem dL_law_858 : decode cL_law 858 = .ok (.iload_n 3, 1) := by decide +kernel
theorem dL_law_859 : decode cL_law 859 = .ok (.iconst 1, 1) := by decide +kernel
theorem dL_law_860 : decode cL_law 860 = .ok (.iadd, 1) := by decide +kernel
theorem dL_law_861 : decode cL_law 861 = .ok (.iaload, 1) := by decide +kernel
theorem dL_law_862 : decode cL_law 862 = .ok (.aload_n 0, 1) := by decide +kernel
theorem dL_law_863 : decode cL_law 863 = .ok (.iload_n 3, 1) := by decide +kernel
theorem dL_law_864 : decode cL_law 864 = .ok (.iconst 2, 1) := by decide +kernel
theorem dL_law_865 : decode cL_law 865 = .ok (.iadd, 1) := by decide +kernel
theorem dL_law_866 : decode cL_law 866 = .ok (.iaload, 1) := by decide +kernel
theorem dL_law_867 : decode cL_law 867 = .ok (.aload_n 0, 1) := by decide +kernel
theorem dL_law_868 : decode cL_law 868 = .ok (.iload_n 3, 1) := by decide +kernel
theorem dL_law_869 : decode cL_law 869 = .ok (.iconst 3, 1) := by decide +kernel
theorem dL_law_870 : decode cL_law 870 = .ok (.iadd, 1) := by decide +kernel
theorem dL_law_871 : decode cL_law 871 = .ok (.iaload, 1) := by decide +kernel
theorem dL_law_872 : decode cL_law 872 = .ok (.invokevirtual 109, 3) := by decide +kernel
theorem dL_law_875 : decode cL_law 875 = .ok (.aload_n 2, 1) := by decide +kernel
theorem dL_law_876 : decode cL_law 876 = .ok (.aload_n 0, 1) := by decide +kernel
theorem dL_law_877 : decode cL_law 877 = .ok (.iload_n 3, 1) := by decide +kernel
theorem dL_law_878 : decode cL_law 878 = .ok (.iconst 1, 1) := by decide +kernel
theorem dL_law_879 : decode cL_law 879 = .ok (.iadd, 1) := by decide +kernel
theorem dL_law_880 : decode cL_law 880 = .ok (.iaload, 1) := by decide +kernel
theorem dL_law_881 : decode cL_law 881 = .ok (.aload_n 0, 1) := by decide +kernel
theorem dL_law_882 : decode cL_law 882 = .ok (.iload_n 3, 1) := by decide +kernel
theorem dL_law_883 : decode cL_law 883 = .ok (.iconst 2, 1) := by decide +kernel
theorem dL_law_884 : decode cL_law 884 = .ok (.iadd, 1) := by decide +kernel
theorem dL_law_885 : decode cL_law 885 = .ok (.iaload, 1) := by decide +kernel
theorem dL_law_886 : decode cL_law 886 = .ok (.aload_n 0, 1) := by decide +kernel
theorem dL_law_887 : decode cL_law 887 = .ok (.iload_n 3, 1) := by decide +kernel
theorem dL_law_888 : decode cL_law 888 = .ok (.iconst 3, 1) := by decide +kernel
theorem dL_law_889 : decode cL_law 889 = .ok (.iadd, 1) := by decide +kernel
theorem dL_law_890 : decode cL_law 890 = .ok (.iaload, 1) := by decide +kernel
theorem dL_law_891 : decode cL_law 891 = .ok (.invokevirtual 112, 3) := by decide +kernel
theorem dL_law_894 : decode cL_law 894 = .ok (.if_icmp .eq 48, 3) := by decide +kernel
theorem dL_law_897 : decode cL_law 897 = .ok (.iconst 0, 1) := by decide +kernel
theorem dL_law_898 : decode cL_law 898 = .ok (.ireturn, 1) := by decide +kernel
theorem dL_law_899 : decode cL_law 899 = .ok (.aload_n 1, 1) := by decide +kernel
theorem dL_law_900 : decode cL_law 900 = .ok (.aload_n 0, 1) := by decide +kernel
theorem dL_law_901 : decode cL_law 901 = .ok (.iload_n 3, 1) := by decide +kernel
theorem dL_law_902 : decode cL_law 902 = .ok (.iconst 1, 1) := by decide +kernel
theorem dL_law_903 : decode cL_law 903 = .ok (.iadd, 1) := by decide +kernel
theorem dL_law_904 : decode cL_law 904 = .ok (.iaload, 1) := by decide +kernel
theorem dL_law_905 : decode cL_law 905 = .ok (.aload_n 0, 1) := by decide +kernel
theorem dL_law_906 : decode cL_law 906 = .ok (.iload_n 3, 1) := by decide +kernel
theorem dL_law_907 : decode cL_law 907 = .ok (.iconst 2, 1) := by decide +kernel
theorem dL_law_908 : decode cL_law 908 = .ok (.iadd, 1) := by decide +kernel
theorem dL_law_909 : decode cL_law 909 = .ok (.iaload, 1) := by decide +kernel
theorem dL_law_910 : decode cL_law 910 = .ok (.aload_n 0, 1) := by decide +kernel
theorem dL_law_911 : decode cL_law 911 = .ok (.iload_n 3, 1) := by decide +kernel
theorem dL_law_912 : decode cL_law 912 = .ok (.iconst 3, 1) := by decide +kernel
theorem dL_law_913 : decode cL_law 913 = .ok (.iadd, 1) := by decide +kernel
theorem dL_law_914 : decode cL_law 914 = .ok (.iaload, 1) := by decide +kernel
theorem dL_law_915 : decode cL_law 915 = .ok (.invokevirtual 113, 3) := by decide +kernel
theorem dL_law_918 : decode cL_law 918 = .ok (.aload_n 2, 1) := by decide +kernel
theorem dL_law_919 : decode cL_law 919 = .ok (.aload_n 0, 1) := by decide +kernel
theorem dL_law_920 : decode cL_law 920 = .ok (.iload_n 3, 1) := by decide +kernel
theorem dL_law_921 : decode cL_law 921 = .ok (.iconst 1, 1) := by decide +kernel
theorem dL_law_922 : decode cL_law 922 = .ok (.iadd, 1) := by decide +kernel
theorem dL_law_923 : decode cL_law 923 = .ok (.iaload, 1) := by decide +kernel
theorem dL_law_924 : decode cL_law 924 = .ok (.aload_n 0, 1) := by decide +kernel
theorem dL_law_925 : decode cL_law 925 = .ok (.iload_n 3, 1) := by decide +kernel
theorem dL_law_926 : decode cL_law 926 = .ok (.iconst 2, 1) := by decide +kernel
theorem dL_law_927 : decode cL_law 927 = .ok (.iadd, 1) := by decide +kernel
theorem dL_law_928 : decode cL_law 928 = .ok (.iaload, 1) := by decide +kernel
theorem dL_law_929 : decode cL_law 929 = .ok (.aload_n 0, 1) := by decide +kernel
theorem dL_law_930 : decode cL_law 930 = .ok (.iload_n 3, 1) := by decide +kernel
theorem dL_law_931 : decode cL_law 931 = .ok (.iconst 3, 1) := by decide +kernel
theorem dL_law_932 : decode cL_law 932 = .ok (.iadd, 1) := by decide +kernel
theorem dL_law_933 : decode cL_law 933 = .ok (.iaload, 1) := by decide +kernel
theorem dL_law_934 : decode cL_law 934 = .ok (.invokevirtual 116, 3) := by decide +kernel
theorem dL_law_937 : decode cL_law 937 = .ok (.if_icmp .eq 5, 3) := by decide +kernel
theorem dL_law_940 : decode cL_law 940 = .ok (.iconst 0, 1) := by decide +kernel
theorem dL_law_941 : decode cL_law 941 = .ok (.ireturn, 1) := by decide +kernel
theorem dL_law_942 : decode cL_law 942 = .ok (.iinc 3 6, 3) := by decide +kernel
theorem dL_law_945 : decode cL_law 945 = .ok (.goto (-927), 3) := by decide +kernel
theorem dL_law_948 : decode cL_law 948 = .ok (.iconst 1, 1) := by decide +kernel
theorem dL_law_949 : decode cL_law 949 = .ok (.ireturn, 1) := by decide +kernel
end
section
abbrev kX11_init : zK := (cX11_init, 2, none, 4, 170)
theorem vX11_init : zm_yi yX11_init kX11_init 0 := ⟨⟨by decide, by decide, by decide +kernel⟩, zm_in (by decide +kernel) (by decide +kernel), zm_in (by decide +kernel) (by decide +kernel), by decide, zm_in (by decide +kernel) (by decide +kernel), rfl, rfl⟩
abbrev kX11_feed : zK := (cX11_feed, 6, (some .int), 2, 0)
theorem vX11_feed : zm_yv yX11_feed kX11_feed 5 := ⟨⟨by decide, by decide, by decide +kernel⟩, zm_in (by decide +kernel) (by decide +kernel), zm_in (by decide +kernel) (by decide +kernel), by decide, zm_in (by decide +kernel) (by decide +kernel), zm_in (by decide +kernel) (by decide +kernel)⟩
abbrev kX11_end : zK := (cX11_end, 2, (some .boolean), 1, 0)
theorem vX11_end : zm_yv yX11_end kX11_end 1 := ⟨⟨by decide, by decide, by decide +kernel⟩, zm_in (by decide +kernel) (by decide +kernel), zm_in (by decide +kernel) (by decide +kernel), by decide, zm_in (by decide +kernel) (by decide +kernel), zm_in (by decide +kernel) (by decide +kernel)⟩
abbrev kX11_bit : zK := (cX11_bit, 4, (some .int), 4, 0)
theorem vX11_bit : zm_yv yX11_bit kX11_bit 1 := ⟨⟨by decide, by decide, by decide +kernel⟩, zm_in (by decide +kernel) (by decide +kernel), zm_in (by decide +kernel) (by decide +kernel), by decide, zm_in (by decide +kernel) (by decide +kernel), zm_in (by decide +kernel) (by decide +kernel)⟩
abbrev kX11_cell : zK := (cX11_cell, 5, (some .int), 2, 0)
theorem vX11_cell : zm_yv yX11_cell kX11_cell 3 := ⟨⟨by decide, by decide, by decide +kernel⟩, zm_in (by decide +kernel) (by decide +kernel), zm_in (by decide +kernel) (by decide +kernel), by decide, zm_in (by decide +kernel) (by decide +kernel), zm_in (by decide +kernel) (by decide +kernel)⟩
abbrev kX11_fibre : zK := (cX11_fibre, 8, (some .int), 2, 0)
theorem vX11_fibre : zm_yv yX11_fibre kX11_fibre 4 := ⟨⟨by decide, by decide, by decide +kernel⟩, zm_in (by decide +kernel) (by decide +kernel), zm_in (by decide +kernel) (by decide +kernel), by decide, zm_in (by decide +kernel) (by decide +kernel), zm_in (by decide +kernel) (by decide +kernel)⟩
abbrev kX11_word : zK := (cX11_word, 2, (some .int), 3, 0)
theorem vX11_word : zm_yv yX11_word kX11_word 0 := ⟨⟨by decide, by decide, by decide +kernel⟩, zm_in (by decide +kernel) (by decide +kernel), zm_in (by decide +kernel) (by decide +kernel), by decide, zm_in (by decide +kernel) (by decide +kernel), zm_in (by decide +kernel) (by decide +kernel)⟩
abbrev kX11_lay : zK := (cX11_lay, 6, (some .boolean), 5, 0)
theorem vX11_lay : zm_yv yX11_lay kX11_lay 3 := ⟨⟨by decide, by decide, by decide +kernel⟩, zm_in (by decide +kernel) (by decide +kernel), zm_in (by decide +kernel) (by decide +kernel), by decide, zm_in (by decide +kernel) (by decide +kernel), zm_in (by decide +kernel) (by decide +kernel)⟩
abbrev kX11_take : zK := (cX11_take, 3, (some .boolean), 4, 0)
theorem vX11_take : zm_yv yX11_take kX11_take 1 := ⟨⟨by decide, by decide, by decide +kernel⟩, zm_in (by decide +kernel) (by decide +kernel), zm_in (by decide +kernel) (by decide +kernel), by decide, zm_in (by decide +kernel) (by decide +kernel), zm_in (by decide +kernel) (by decide +kernel)⟩
abbrev kX11_place : zK := (cX11_place, 4, (some .int), 2, 0)
theorem vX11_place : zm_yv yX11_place kX11_place 2 := ⟨⟨by decide, by decide, by decide +kernel⟩, zm_in (by decide +kernel) (by decide +kernel), zm_in (by decide +kernel) (by decide +kernel), by decide, zm_in (by decide +kernel) (by decide +kernel), zm_in (by decide +kernel) (by decide +kernel)⟩
abbrev kX11_sheet : zK := (cX11_sheet, 3, (some .int), 2, 0)
theorem vX11_sheet : zm_yv yX11_sheet kX11_sheet 2 := ⟨⟨by decide, by decide, by decide +kernel⟩, zm_in (by decide +kernel) (by decide +kernel), zm_in (by decide +kernel) (by decide +kernel), by decide, zm_in (by decide +kernel) (by decide +kernel), zm_in (by decide +kernel) (by decide +kernel)⟩
abbrev kX11_whose : zK := (cX11_whose, 3, (some .int), 3, 0)
theorem vX11_whose : zm_yv yX11_whose kX11_whose 2 := ⟨⟨by decide, by decide, by decide +kernel⟩, zm_in (by decide +kernel) (by decide +kernel), zm_in (by decide +kernel) (by decide +kernel), by decide, zm_in (by decide +kernel) (by decide +kernel), zm_in (by decide +kernel) (by decide +kernel)⟩
abbrev kX11_words : zK := (cX11_words, 5, (some .int), 4, 0)
theorem vX11_words : zm_yv yX11_words kX11_words 2 := ⟨⟨by decide, by decide, by decide +kernel⟩, zm_in (by decide +kernel) (by decide +kernel), zm_in (by decide +kernel) (by decide +kernel), by decide, zm_in (by decide +kernel) (by decide +kernel), zm_in (by decide +kernel) (by decide +kernel)⟩
abbrev kX11_read : zK := (cX11_read, 6, (some .int), 4, 0)
theorem vX11_read : zm_yv yX11_read kX11_read 3 := ⟨⟨by decide, by decide, by decide +kernel⟩, zm_in (by decide +kernel) (by decide +kernel), zm_in (by decide +kernel) (by decide +kernel), by decide, zm_in (by decide +kernel) (by decide +kernel), zm_in (by decide +kernel) (by decide +kernel)⟩
abbrev kX11_worth : zK := (cX11_worth, 1, (some .int), 4, 0)
theorem vX11_worth : zm_yv yX11_worth kX11_worth 0 := ⟨⟨by decide, by decide, by decide +kernel⟩, zm_in (by decide +kernel) (by decide +kernel), zm_in (by decide +kernel) (by decide +kernel), by decide, zm_in (by decide +kernel) (by decide +kernel), zm_in (by decide +kernel) (by decide +kernel)⟩
abbrev kX11_join : zK := (cX11_join, 6, (some .int), 7, 0)
theorem vX11_join : zm_yv yX11_join kX11_join 2 := ⟨⟨by decide, by decide, by decide +kernel⟩, zm_in (by decide +kernel) (by decide +kernel), zm_in (by decide +kernel) (by decide +kernel), by decide, zm_in (by decide +kernel) (by decide +kernel), zm_in (by decide +kernel) (by decide +kernel)⟩
abbrev kX11_joins : zK := (cX11_joins, 3, (some .int), 7, 0)
theorem vX11_joins : zm_yv yX11_joins kX11_joins 1 := ⟨⟨by decide, by decide, by decide +kernel⟩, zm_in (by decide +kernel) (by decide +kernel), zm_in (by decide +kernel) (by decide +kernel), by decide, zm_in (by decide +kernel) (by decide +kernel), zm_in (by decide +kernel) (by decide +kernel)⟩
abbrev kX11_roll : zK := (cX11_roll, 3, (some .int), 2, 0)
theorem vX11_roll : zm_yv yX11_roll kX11_roll 2 := ⟨⟨by decide, by decide, by decide +kernel⟩, zm_in (by decide +kernel) (by decide +kernel), zm_in (by decide +kernel) (by decide +kernel), by decide, zm_in (by decide +kernel) (by decide +kernel), zm_in (by decide +kernel) (by decide +kernel)⟩
abbrev kX11_hole : zK := (cX11_hole, 4, (some .int), 2, 0)
theorem vX11_hole : zm_yv yX11_hole kX11_hole 2 := ⟨⟨by decide, by decide, by decide +kernel⟩, zm_in (by decide +kernel) (by decide +kernel), zm_in (by decide +kernel) (by decide +kernel), by decide, zm_in (by decide +kernel) (by decide +kernel), zm_in (by decide +kernel) (by decide +kernel)⟩
abbrev kX11_stood : zK := (cX11_stood, 3, (some .int), 3, 0)
theorem vX11_stood : zm_yv yX11_stood kX11_stood 1 := ⟨⟨by decide, by decide, by decide +kernel⟩, zm_in (by decide +kernel) (by decide +kernel), zm_in (by decide +kernel) (by decide +kernel), by decide, zm_in (by decide +kernel) (by decide +kernel), zm_in (by decide +kernel) (by decide +kernel)⟩
abbrev kX11_standing : zK := (cX11_standing, 4, (some .int), 3, 0)
theorem vX11_standing : zm_yv yX11_standing kX11_standing 2 := ⟨⟨by decide, by decide, by decide +kernel⟩, zm_in (by decide +kernel) (by decide +kernel), zm_in (by decide +kernel) (by decide +kernel), by decide, zm_in (by decide +kernel) (by decide +kernel), zm_in (by decide +kernel) (by decide +kernel)⟩
abbrev kX11_known : zK := (cX11_known, 2, (some .int), 3, 0)
theorem vX11_known : zm_yv yX11_known kX11_known 0 := ⟨⟨by decide, by decide, by decide +kernel⟩, zm_in (by decide +kernel) (by decide +kernel), zm_in (by decide +kernel) (by decide +kernel), by decide, zm_in (by decide +kernel) (by decide +kernel), zm_in (by decide +kernel) (by decide +kernel)⟩
abbrev kX11_stands : zK := (cX11_stands, 4, (some .int), 4, 0)
theorem vX11_stands : zm_yv yX11_stands kX11_stands 2 := ⟨⟨by decide, by decide, by decide +kernel⟩, zm_in (by decide +kernel) (by decide +kernel), zm_in (by decide +kernel) (by decide +kernel), by decide, zm_in (by decide +kernel) (by decide +kernel), zm_in (by decide +kernel) (by decide +kernel)⟩
abbrev kX11_letter : zK := (cX11_letter, 5, (some .int), 4, 0)
theorem vX11_letter : zm_yv yX11_letter kX11_letter 3 := ⟨⟨by decide, by decide, by decide +kernel⟩, zm_in (by decide +kernel) (by decide +kernel), zm_in (by decide +kernel) (by decide +kernel), by decide, zm_in (by decide +kernel) (by decide +kernel), zm_in (by decide +kernel) (by decide +kernel)⟩
abbrev kX11_width : zK := (cX11_width, 9, (some .int), 4, 0)
theorem vX11_width : zm_yv yX11_width kX11_width 3 := ⟨⟨by decide, by decide, by decide +kernel⟩, zm_in (by decide +kernel) (by decide +kernel), zm_in (by decide +kernel) (by decide +kernel), by decide, zm_in (by decide +kernel) (by decide +kernel), zm_in (by decide +kernel) (by decide +kernel)⟩
abbrev kX11_bitOf : zK := (cX11_bitOf, 2, (some (.object "TornReeds$Bit")), 1, 0)
theorem vX11_bitOf : zm_yv yX11_bitOf kX11_bitOf 1 := ⟨⟨by decide, by decide, by decide +kernel⟩, zm_in (by decide +kernel) (by decide +kernel), zm_in (by decide +kernel) (by decide +kernel), by decide, zm_in (by decide +kernel) (by decide +kernel), zm_in (by decide +kernel) (by decide +kernel)⟩
abbrev kX11_looseBit : zK := (cX11_looseBit, 3, (some (.object "TornReeds$Bit")), 2, 0)
theorem vX11_looseBit : zm_yv yX11_looseBit kX11_looseBit 1 := ⟨⟨by decide, by decide, by decide +kernel⟩, zm_in (by decide +kernel) (by decide +kernel), zm_in (by decide +kernel) (by decide +kernel), by decide, zm_in (by decide +kernel) (by decide +kernel), zm_in (by decide +kernel) (by decide +kernel)⟩
abbrev kX11_isWidth : zK := (cX11_isWidth, 1, (some .boolean), 1, 0)
theorem vX11_isWidth : zm_ys yX11_isWidth kX11_isWidth 1 := ⟨⟨by decide, by decide, by decide +kernel⟩, zm_in (by decide +kernel) (by decide +kernel), zm_in (by decide +kernel) (by decide +kernel), by decide, zm_in (by decide +kernel) (by decide +kernel)⟩
abbrev kX11_isLetter : zK := (cX11_isLetter, 1, (some .boolean), 1, 0)
theorem vX11_isLetter : zm_ys yX11_isLetter kX11_isLetter 1 := ⟨⟨by decide, by decide, by decide +kernel⟩, zm_in (by decide +kernel) (by decide +kernel), zm_in (by decide +kernel) (by decide +kernel), by decide, zm_in (by decide +kernel) (by decide +kernel)⟩
abbrev kX11_isText : zK := (cX11_isText, 1, (some .boolean), 1, 0)
theorem vX11_isText : zm_ys yX11_isText kX11_isText 1 := ⟨⟨by decide, by decide, by decide +kernel⟩, zm_in (by decide +kernel) (by decide +kernel), zm_in (by decide +kernel) (by decide +kernel), by decide, zm_in (by decide +kernel) (by decide +kernel)⟩
abbrev kX12_init : zK := (cX12_init, 1, none, 2, 18)
theorem vX12_init : zm_yi yX12_init kX12_init 0 := ⟨⟨by decide, by decide, by decide +kernel⟩, zm_in (by decide +kernel) (by decide +kernel), zm_in (by decide +kernel) (by decide +kernel), by decide, zm_in (by decide +kernel) (by decide +kernel), rfl, rfl⟩
abbrev kX12_feed : zK := (cX12_feed, 8, (some .int), 1, 0)
theorem vX12_feed : zm_yv yX12_feed kX12_feed 5 := ⟨⟨by decide, by decide, by decide +kernel⟩, zm_in (by decide +kernel) (by decide +kernel), zm_in (by decide +kernel) (by decide +kernel), by decide, zm_in (by decide +kernel) (by decide +kernel), zm_in (by decide +kernel) (by decide +kernel)⟩
abbrev kX12_end : zK := (cX12_end, 2, (some .boolean), 1, 0)
theorem vX12_end : zm_yv yX12_end kX12_end 1 := ⟨⟨by decide, by decide, by decide +kernel⟩, zm_in (by decide +kernel) (by decide +kernel), zm_in (by decide +kernel) (by decide +kernel), by decide, zm_in (by decide +kernel) (by decide +kernel), zm_in (by decide +kernel) (by decide +kernel)⟩
abbrev kX12_isIn : zK := (cX12_isIn, 3, (some .boolean), 1, 0)
theorem vX12_isIn : zm_ys yX12_isIn kX12_isIn 3 := ⟨⟨by decide, by decide, by decide +kernel⟩, zm_in (by decide +kernel) (by decide +kernel), zm_in (by decide +kernel) (by decide +kernel), by decide, zm_in (by decide +kernel) (by decide +kernel)⟩
abbrev kX12_isLetter : zK := (cX12_isLetter, 1, (some .boolean), 1, 0)
theorem vX12_isLetter : zm_ys yX12_isLetter kX12_isLetter 1 := ⟨⟨by decide, by decide, by decide +kernel⟩, zm_in (by decide +kernel) (by decide +kernel), zm_in (by decide +kernel) (by decide +kernel), by decide, zm_in (by decide +kernel) (by decide +kernel)⟩
abbrev kX12_isBit : zK := (cX12_isBit, 2, (some .boolean), 2, 0)
theorem vX12_isBit : zm_yv yX12_isBit kX12_isBit 1 := ⟨⟨by decide, by decide, by decide +kernel⟩, zm_in (by decide +kernel) (by decide +kernel), zm_in (by decide +kernel) (by decide +kernel), by decide, zm_in (by decide +kernel) (by decide +kernel), zm_in (by decide +kernel) (by decide +kernel)⟩
abbrev kX12_reads : zK := (cX12_reads, 7, (some .int), 2, 0)
theorem vX12_reads : zm_yv yX12_reads kX12_reads 1 := ⟨⟨by decide, by decide, by decide +kernel⟩, zm_in (by decide +kernel) (by decide +kernel), zm_in (by decide +kernel) (by decide +kernel), by decide, zm_in (by decide +kernel) (by decide +kernel), zm_in (by decide +kernel) (by decide +kernel)⟩
abbrev kX12_bit : zK := (cX12_bit, 5, (some .int), 3, 0)
theorem vX12_bit : zm_yv yX12_bit kX12_bit 1 := ⟨⟨by decide, by decide, by decide +kernel⟩, zm_in (by decide +kernel) (by decide +kernel), zm_in (by decide +kernel) (by decide +kernel), by decide, zm_in (by decide +kernel) (by decide +kernel), zm_in (by decide +kernel) (by decide +kernel)⟩
abbrev kX12_cell : zK := (cX12_cell, 4, (some .int), 3, 0)
theorem vX12_cell : zm_yv yX12_cell kX12_cell 3 := ⟨⟨by decide, by decide, by decide +kernel⟩, zm_in (by decide +kernel) (by decide +kernel), zm_in (by decide +kernel) (by decide +kernel), by decide, zm_in (by decide +kernel) (by decide +kernel), zm_in (by decide +kernel) (by decide +kernel)⟩
abbrev kX12_fibre : zK := (cX12_fibre, 6, (some .int), 3, 0)
theorem vX12_fibre : zm_yv yX12_fibre kX12_fibre 4 := ⟨⟨by decide, by decide, by decide +kernel⟩, zm_in (by decide +kernel) (by decide +kernel), zm_in (by decide +kernel) (by decide +kernel), by decide, zm_in (by decide +kernel) (by decide +kernel), zm_in (by decide +kernel) (by decide +kernel)⟩
abbrev kX12_word : zK := (cX12_word, 3, (some .int), 2, 0)
theorem vX12_word : zm_yv yX12_word kX12_word 0 := ⟨⟨by decide, by decide, by decide +kernel⟩, zm_in (by decide +kernel) (by decide +kernel), zm_in (by decide +kernel) (by decide +kernel), by decide, zm_in (by decide +kernel) (by decide +kernel), zm_in (by decide +kernel) (by decide +kernel)⟩
abbrev kX12_at : zK := (cX12_at, 4, (some .int), 1, 0)
theorem vX12_at : zm_yv yX12_at kX12_at 3 := ⟨⟨by decide, by decide, by decide +kernel⟩, zm_in (by decide +kernel) (by decide +kernel), zm_in (by decide +kernel) (by decide +kernel), by decide, zm_in (by decide +kernel) (by decide +kernel), zm_in (by decide +kernel) (by decide +kernel)⟩
abbrev kX12_lays : zK := (cX12_lays, 6, (some .boolean), 2, 0)
theorem vX12_lays : zm_yv yX12_lays kX12_lays 1 := ⟨⟨by decide, by decide, by decide +kernel⟩, zm_in (by decide +kernel) (by decide +kernel), zm_in (by decide +kernel) (by decide +kernel), by decide, zm_in (by decide +kernel) (by decide +kernel), zm_in (by decide +kernel) (by decide +kernel)⟩
abbrev kX12_laysAll : zK := (cX12_laysAll, 2, (some .boolean), 3, 0)
theorem vX12_laysAll : zm_yv yX12_laysAll kX12_laysAll 0 := ⟨⟨by decide, by decide, by decide +kernel⟩, zm_in (by decide +kernel) (by decide +kernel), zm_in (by decide +kernel) (by decide +kernel), by decide, zm_in (by decide +kernel) (by decide +kernel), zm_in (by decide +kernel) (by decide +kernel)⟩
abbrev kX12_hasInRow : zK := (cX12_hasInRow, 5, (some .boolean), 2, 0)
theorem vX12_hasInRow : zm_yv yX12_hasInRow kX12_hasInRow 2 := ⟨⟨by decide, by decide, by decide +kernel⟩, zm_in (by decide +kernel) (by decide +kernel), zm_in (by decide +kernel) (by decide +kernel), by decide, zm_in (by decide +kernel) (by decide +kernel), zm_in (by decide +kernel) (by decide +kernel)⟩
abbrev kX12_hasInColumn : zK := (cX12_hasInColumn, 5, (some .boolean), 2, 0)
theorem vX12_hasInColumn : zm_yv yX12_hasInColumn kX12_hasInColumn 2 := ⟨⟨by decide, by decide, by decide +kernel⟩, zm_in (by decide +kernel) (by decide +kernel), zm_in (by decide +kernel) (by decide +kernel), by decide, zm_in (by decide +kernel) (by decide +kernel), zm_in (by decide +kernel) (by decide +kernel)⟩
abbrev kX12_acrossOf : zK := (cX12_acrossOf, 6, (some .int), 3, 0)
theorem vX12_acrossOf : zm_yv yX12_acrossOf kX12_acrossOf 3 := ⟨⟨by decide, by decide, by decide +kernel⟩, zm_in (by decide +kernel) (by decide +kernel), zm_in (by decide +kernel) (by decide +kernel), by decide, zm_in (by decide +kernel) (by decide +kernel), zm_in (by decide +kernel) (by decide +kernel)⟩
abbrev kX12_downOf : zK := (cX12_downOf, 6, (some .int), 3, 0)
theorem vX12_downOf : zm_yv yX12_downOf kX12_downOf 3 := ⟨⟨by decide, by decide, by decide +kernel⟩, zm_in (by decide +kernel) (by decide +kernel), zm_in (by decide +kernel) (by decide +kernel), by decide, zm_in (by decide +kernel) (by decide +kernel), zm_in (by decide +kernel) (by decide +kernel)⟩
abbrev kX12_quarrel : zK := (cX12_quarrel, 4, (some .boolean), 4, 0)
theorem vX12_quarrel : zm_yv yX12_quarrel kX12_quarrel 2 := ⟨⟨by decide, by decide, by decide +kernel⟩, zm_in (by decide +kernel) (by decide +kernel), zm_in (by decide +kernel) (by decide +kernel), by decide, zm_in (by decide +kernel) (by decide +kernel), zm_in (by decide +kernel) (by decide +kernel)⟩
abbrev kX12_isInk : zK := (cX12_isInk, 2, (some .boolean), 2, 0)
theorem vX12_isInk : zm_yv yX12_isInk kX12_isInk 1 := ⟨⟨by decide, by decide, by decide +kernel⟩, zm_in (by decide +kernel) (by decide +kernel), zm_in (by decide +kernel) (by decide +kernel), by decide, zm_in (by decide +kernel) (by decide +kernel), zm_in (by decide +kernel) (by decide +kernel)⟩
abbrev kX12_runAt : zK := (cX12_runAt, 5, none, 3, 0)
theorem vX12_runAt : zm_yv yX12_runAt kX12_runAt 2 := ⟨⟨by decide, by decide, by decide +kernel⟩, zm_in (by decide +kernel) (by decide +kernel), zm_in (by decide +kernel) (by decide +kernel), by decide, zm_in (by decide +kernel) (by decide +kernel), zm_in (by decide +kernel) (by decide +kernel)⟩
abbrev kX12_isFrom : zK := (cX12_isFrom, 4, (some .boolean), 1, 0)
theorem vX12_isFrom : zm_yv yX12_isFrom kX12_isFrom 2 := ⟨⟨by decide, by decide, by decide +kernel⟩, zm_in (by decide +kernel) (by decide +kernel), zm_in (by decide +kernel) (by decide +kernel), by decide, zm_in (by decide +kernel) (by decide +kernel), zm_in (by decide +kernel) (by decide +kernel)⟩
abbrev kX12_canBe : zK := (cX12_canBe, 4, (some .boolean), 2, 0)
theorem vX12_canBe : zm_yv yX12_canBe kX12_canBe 1 := ⟨⟨by decide, by decide, by decide +kernel⟩, zm_in (by decide +kernel) (by decide +kernel), zm_in (by decide +kernel) (by decide +kernel), by decide, zm_in (by decide +kernel) (by decide +kernel), zm_in (by decide +kernel) (by decide +kernel)⟩
abbrev kX12_canAny : zK := (cX12_canAny, 2, (some .boolean), 3, 0)
theorem vX12_canAny : zm_yv yX12_canAny kX12_canAny 0 := ⟨⟨by decide, by decide, by decide +kernel⟩, zm_in (by decide +kernel) (by decide +kernel), zm_in (by decide +kernel) (by decide +kernel), by decide, zm_in (by decide +kernel) (by decide +kernel), zm_in (by decide +kernel) (by decide +kernel)⟩
abbrev kX12_runsCan : zK := (cX12_runsCan, 3, (some .boolean), 4, 0)
theorem vX12_runsCan : zm_yv yX12_runsCan kX12_runsCan 0 := ⟨⟨by decide, by decide, by decide +kernel⟩, zm_in (by decide +kernel) (by decide +kernel), zm_in (by decide +kernel) (by decide +kernel), by decide, zm_in (by decide +kernel) (by decide +kernel), zm_in (by decide +kernel) (by decide +kernel)⟩
abbrev kX12_mayLie : zK := (cX12_mayLie, 3, (some .boolean), 5, 0)
theorem vX12_mayLie : zm_yv yX12_mayLie kX12_mayLie 0 := ⟨⟨by decide, by decide, by decide +kernel⟩, zm_in (by decide +kernel) (by decide +kernel), zm_in (by decide +kernel) (by decide +kernel), by decide, zm_in (by decide +kernel) (by decide +kernel), zm_in (by decide +kernel) (by decide +kernel)⟩
abbrev kX12_puts : zK := (cX12_puts, 4, none, 1, 0)
theorem vX12_puts : zm_yv yX12_puts kX12_puts 3 := ⟨⟨by decide, by decide, by decide +kernel⟩, zm_in (by decide +kernel) (by decide +kernel), zm_in (by decide +kernel) (by decide +kernel), by decide, zm_in (by decide +kernel) (by decide +kernel), zm_in (by decide +kernel) (by decide +kernel)⟩
abbrev kX12_lay : zK := (cX12_lay, 4, (some .boolean), 6, 0)
theorem vX12_lay : zm_yv yX12_lay kX12_lay 3 := ⟨⟨by decide, by decide, by decide +kernel⟩, zm_in (by decide +kernel) (by decide +kernel), zm_in (by decide +kernel) (by decide +kernel), by decide, zm_in (by decide +kernel) (by decide +kernel), zm_in (by decide +kernel) (by decide +kernel)⟩
abbrev kX12_take : zK := (cX12_take, 2, (some .boolean), 3, 0)
theorem vX12_take : zm_yv yX12_take kX12_take 1 := ⟨⟨by decide, by decide, by decide +kernel⟩, zm_in (by decide +kernel) (by decide +kernel), zm_in (by decide +kernel) (by decide +kernel), by decide, zm_in (by decide +kernel) (by decide +kernel), zm_in (by decide +kernel) (by decide +kernel)⟩
abbrev kX12_place : zK := (cX12_place, 3, (some .int), 3, 0)
theorem vX12_place : zm_yv yX12_place kX12_place 2 := ⟨⟨by decide, by decide, by decide +kernel⟩, zm_in (by decide +kernel) (by decide +kernel), zm_in (by decide +kernel) (by decide +kernel), by decide, zm_in (by decide +kernel) (by decide +kernel), zm_in (by decide +kernel) (by decide +kernel)⟩
abbrev kX12_isPlace : zK := (cX12_isPlace, 2, (some .boolean), 2, 0)
theorem vX12_isPlace : zm_ys yX12_isPlace kX12_isPlace 2 := ⟨⟨by decide, by decide, by decide +kernel⟩, zm_in (by decide +kernel) (by decide +kernel), zm_in (by decide +kernel) (by decide +kernel), by decide, zm_in (by decide +kernel) (by decide +kernel)⟩
abbrev kX12_sheet : zK := (cX12_sheet, 3, (some .int), 4, 0)
theorem vX12_sheet : zm_yv yX12_sheet kX12_sheet 2 := ⟨⟨by decide, by decide, by decide +kernel⟩, zm_in (by decide +kernel) (by decide +kernel), zm_in (by decide +kernel) (by decide +kernel), by decide, zm_in (by decide +kernel) (by decide +kernel), zm_in (by decide +kernel) (by decide +kernel)⟩
abbrev kX12_whose : zK := (cX12_whose, 3, (some .int), 4, 0)
theorem vX12_whose : zm_yv yX12_whose kX12_whose 2 := ⟨⟨by decide, by decide, by decide +kernel⟩, zm_in (by decide +kernel) (by decide +kernel), zm_in (by decide +kernel) (by decide +kernel), by decide, zm_in (by decide +kernel) (by decide +kernel), zm_in (by decide +kernel) (by decide +kernel)⟩
abbrev kX12_hasRun : zK := (cX12_hasRun, 3, (some .boolean), 4, 0)
theorem vX12_hasRun : zm_yv yX12_hasRun kX12_hasRun 2 := ⟨⟨by decide, by decide, by decide +kernel⟩, zm_in (by decide +kernel) (by decide +kernel), zm_in (by decide +kernel) (by decide +kernel), by decide, zm_in (by decide +kernel) (by decide +kernel), zm_in (by decide +kernel) (by decide +kernel)⟩
abbrev kX12_words : zK := (cX12_words, 5, (some .int), 5, 0)
theorem vX12_words : zm_yv yX12_words kX12_words 2 := ⟨⟨by decide, by decide, by decide +kernel⟩, zm_in (by decide +kernel) (by decide +kernel), zm_in (by decide +kernel) (by decide +kernel), by decide, zm_in (by decide +kernel) (by decide +kernel), zm_in (by decide +kernel) (by decide +kernel)⟩
abbrev kX12_read : zK := (cX12_read, 6, (some .int), 5, 0)
theorem vX12_read : zm_yv yX12_read kX12_read 3 := ⟨⟨by decide, by decide, by decide +kernel⟩, zm_in (by decide +kernel) (by decide +kernel), zm_in (by decide +kernel) (by decide +kernel), by decide, zm_in (by decide +kernel) (by decide +kernel), zm_in (by decide +kernel) (by decide +kernel)⟩
abbrev kX12_sides : zK := (cX12_sides, 5, (some .int), 1, 0)
theorem vX12_sides : zm_yv yX12_sides kX12_sides 2 := ⟨⟨by decide, by decide, by decide +kernel⟩, zm_in (by decide +kernel) (by decide +kernel), zm_in (by decide +kernel) (by decide +kernel), by decide, zm_in (by decide +kernel) (by decide +kernel), zm_in (by decide +kernel) (by decide +kernel)⟩
abbrev kX12_worthOf : zK := (cX12_worthOf, 5, (some .int), 4, 0)
theorem vX12_worthOf : zm_yv yX12_worthOf kX12_worthOf 2 := ⟨⟨by decide, by decide, by decide +kernel⟩, zm_in (by decide +kernel) (by decide +kernel), zm_in (by decide +kernel) (by decide +kernel), by decide, zm_in (by decide +kernel) (by decide +kernel), zm_in (by decide +kernel) (by decide +kernel)⟩
abbrev kX12_worthNow : zK := (cX12_worthNow, 4, (some .int), 5, 0)
theorem vX12_worthNow : zm_yv yX12_worthNow kX12_worthNow 0 := ⟨⟨by decide, by decide, by decide +kernel⟩, zm_in (by decide +kernel) (by decide +kernel), zm_in (by decide +kernel) (by decide +kernel), by decide, zm_in (by decide +kernel) (by decide +kernel), zm_in (by decide +kernel) (by decide +kernel)⟩
abbrev kX12_worth : zK := (cX12_worth, 1, (some .int), 6, 0)
theorem vX12_worth : zm_yv yX12_worth kX12_worth 0 := ⟨⟨by decide, by decide, by decide +kernel⟩, zm_in (by decide +kernel) (by decide +kernel), zm_in (by decide +kernel) (by decide +kernel), by decide, zm_in (by decide +kernel) (by decide +kernel), zm_in (by decide +kernel) (by decide +kernel)⟩
abbrev kX12_rowOf : zK := (cX12_rowOf, 1, (some .int), 1, 0)
theorem vX12_rowOf : zm_ys yX12_rowOf kX12_rowOf 1 := ⟨⟨by decide, by decide, by decide +kernel⟩, zm_in (by decide +kernel) (by decide +kernel), zm_in (by decide +kernel) (by decide +kernel), by decide, zm_in (by decide +kernel) (by decide +kernel)⟩
abbrev kX12_columnOf : zK := (cX12_columnOf, 1, (some .int), 1, 0)
theorem vX12_columnOf : zm_ys yX12_columnOf kX12_columnOf 1 := ⟨⟨by decide, by decide, by decide +kernel⟩, zm_in (by decide +kernel) (by decide +kernel), zm_in (by decide +kernel) (by decide +kernel), by decide, zm_in (by decide +kernel) (by decide +kernel)⟩
abbrev kX12_fits : zK := (cX12_fits, 8, (some .int), 3, 0)
theorem vX12_fits : zm_yv yX12_fits kX12_fits 1 := ⟨⟨by decide, by decide, by decide +kernel⟩, zm_in (by decide +kernel) (by decide +kernel), zm_in (by decide +kernel) (by decide +kernel), by decide, zm_in (by decide +kernel) (by decide +kernel), zm_in (by decide +kernel) (by decide +kernel)⟩
abbrev kX12_anyLies : zK := (cX12_anyLies, 3, (some .boolean), 1, 0)
theorem vX12_anyLies : zm_yv yX12_anyLies kX12_anyLies 0 := ⟨⟨by decide, by decide, by decide +kernel⟩, zm_in (by decide +kernel) (by decide +kernel), zm_in (by decide +kernel) (by decide +kernel), by decide, zm_in (by decide +kernel) (by decide +kernel), zm_in (by decide +kernel) (by decide +kernel)⟩
abbrev kX12_notesEarly : zK := (cX12_notesEarly, 2, none, 4, 0)
theorem vX12_notesEarly : zm_yv yX12_notesEarly kX12_notesEarly 0 := ⟨⟨by decide, by decide, by decide +kernel⟩, zm_in (by decide +kernel) (by decide +kernel), zm_in (by decide +kernel) (by decide +kernel), by decide, zm_in (by decide +kernel) (by decide +kernel), zm_in (by decide +kernel) (by decide +kernel)⟩
abbrev kX12_isNext : zK := (cX12_isNext, 1, (some .boolean), 2, 0)
theorem vX12_isNext : zm_ys yX12_isNext kX12_isNext 1 := ⟨⟨by decide, by decide, by decide +kernel⟩, zm_in (by decide +kernel) (by decide +kernel), zm_in (by decide +kernel) (by decide +kernel), by decide, zm_in (by decide +kernel) (by decide +kernel)⟩
abbrev kX12_holds : zK := (cX12_holds, 8, none, 6, 0)
theorem vX12_holds : zm_yv yX12_holds kX12_holds 4 := ⟨⟨by decide, by decide, by decide +kernel⟩, zm_in (by decide +kernel) (by decide +kernel), zm_in (by decide +kernel) (by decide +kernel), by decide, zm_in (by decide +kernel) (by decide +kernel), zm_in (by decide +kernel) (by decide +kernel)⟩
abbrev kX12_tries : zK := (cX12_tries, 6, (some .int), 8, 0)
theorem vX12_tries : zm_yv yX12_tries kX12_tries 2 := ⟨⟨by decide, by decide, by decide +kernel⟩, zm_in (by decide +kernel) (by decide +kernel), zm_in (by decide +kernel) (by decide +kernel), by decide, zm_in (by decide +kernel) (by decide +kernel), zm_in (by decide +kernel) (by decide +kernel)⟩
abbrev kX12_seconds : zK := (cX12_seconds, 8, none, 7, 0)
theorem vX12_seconds : zm_yv yX12_seconds kX12_seconds 4 := ⟨⟨by decide, by decide, by decide +kernel⟩, zm_in (by decide +kernel) (by decide +kernel), zm_in (by decide +kernel) (by decide +kernel), by decide, zm_in (by decide +kernel) (by decide +kernel), zm_in (by decide +kernel) (by decide +kernel)⟩
abbrev kX12_mayTouch : zK := (cX12_mayTouch, 5, (some .boolean), 5, 0)
theorem vX12_mayTouch : zm_yv yX12_mayTouch kX12_mayTouch 4 := ⟨⟨by decide, by decide, by decide +kernel⟩, zm_in (by decide +kernel) (by decide +kernel), zm_in (by decide +kernel) (by decide +kernel), by decide, zm_in (by decide +kernel) (by decide +kernel), zm_in (by decide +kernel) (by decide +kernel)⟩
abbrev kX12_mayJoin : zK := (cX12_mayJoin, 2, (some .boolean), 3, 0)
theorem vX12_mayJoin : zm_yv yX12_mayJoin kX12_mayJoin 1 := ⟨⟨by decide, by decide, by decide +kernel⟩, zm_in (by decide +kernel) (by decide +kernel), zm_in (by decide +kernel) (by decide +kernel), by decide, zm_in (by decide +kernel) (by decide +kernel), zm_in (by decide +kernel) (by decide +kernel)⟩
abbrev kX12_join : zK := (cX12_join, 4, (some .int), 9, 0)
theorem vX12_join : zm_yv yX12_join kX12_join 2 := ⟨⟨by decide, by decide, by decide +kernel⟩, zm_in (by decide +kernel) (by decide +kernel), zm_in (by decide +kernel) (by decide +kernel), by decide, zm_in (by decide +kernel) (by decide +kernel), zm_in (by decide +kernel) (by decide +kernel)⟩
abbrev kX12_joins : zK := (cX12_joins, 2, (some .int), 9, 0)
theorem vX12_joins : zm_yv yX12_joins kX12_joins 1 := ⟨⟨by decide, by decide, by decide +kernel⟩, zm_in (by decide +kernel) (by decide +kernel), zm_in (by decide +kernel) (by decide +kernel), by decide, zm_in (by decide +kernel) (by decide +kernel), zm_in (by decide +kernel) (by decide +kernel)⟩
abbrev kX12_roll : zK := (cX12_roll, 4, (some .int), 2, 0)
theorem vX12_roll : zm_yv yX12_roll kX12_roll 2 := ⟨⟨by decide, by decide, by decide +kernel⟩, zm_in (by decide +kernel) (by decide +kernel), zm_in (by decide +kernel) (by decide +kernel), by decide, zm_in (by decide +kernel) (by decide +kernel), zm_in (by decide +kernel) (by decide +kernel)⟩
abbrev kX12_hole : zK := (cX12_hole, 3, (some .int), 3, 0)
theorem vX12_hole : zm_yv yX12_hole kX12_hole 2 := ⟨⟨by decide, by decide, by decide +kernel⟩, zm_in (by decide +kernel) (by decide +kernel), zm_in (by decide +kernel) (by decide +kernel), by decide, zm_in (by decide +kernel) (by decide +kernel), zm_in (by decide +kernel) (by decide +kernel)⟩
abbrev kX12_stoodAt : zK := (cX12_stoodAt, 5, (some .boolean), 1, 0)
theorem vX12_stoodAt : zm_yv yX12_stoodAt kX12_stoodAt 2 := ⟨⟨by decide, by decide, by decide +kernel⟩, zm_in (by decide +kernel) (by decide +kernel), zm_in (by decide +kernel) (by decide +kernel), by decide, zm_in (by decide +kernel) (by decide +kernel), zm_in (by decide +kernel) (by decide +kernel)⟩
abbrev kX12_stoods : zK := (cX12_stoods, 6, (some .int), 2, 0)
theorem vX12_stoods : zm_yv yX12_stoods kX12_stoods 2 := ⟨⟨by decide, by decide, by decide +kernel⟩, zm_in (by decide +kernel) (by decide +kernel), zm_in (by decide +kernel) (by decide +kernel), by decide, zm_in (by decide +kernel) (by decide +kernel), zm_in (by decide +kernel) (by decide +kernel)⟩
abbrev kX12_mayStand : zK := (cX12_mayStand, 2, (some .boolean), 3, 0)
theorem vX12_mayStand : zm_yv yX12_mayStand kX12_mayStand 1 := ⟨⟨by decide, by decide, by decide +kernel⟩, zm_in (by decide +kernel) (by decide +kernel), zm_in (by decide +kernel) (by decide +kernel), by decide, zm_in (by decide +kernel) (by decide +kernel), zm_in (by decide +kernel) (by decide +kernel)⟩
abbrev kX12_stood : zK := (cX12_stood, 2, (some .int), 4, 0)
theorem vX12_stood : zm_yv yX12_stood kX12_stood 1 := ⟨⟨by decide, by decide, by decide +kernel⟩, zm_in (by decide +kernel) (by decide +kernel), zm_in (by decide +kernel) (by decide +kernel), by decide, zm_in (by decide +kernel) (by decide +kernel), zm_in (by decide +kernel) (by decide +kernel)⟩
abbrev kX12_standing : zK := (cX12_standing, 3, (some .int), 4, 0)
theorem vX12_standing : zm_yv yX12_standing kX12_standing 2 := ⟨⟨by decide, by decide, by decide +kernel⟩, zm_in (by decide +kernel) (by decide +kernel), zm_in (by decide +kernel) (by decide +kernel), by decide, zm_in (by decide +kernel) (by decide +kernel), zm_in (by decide +kernel) (by decide +kernel)⟩
abbrev kX12_known : zK := (cX12_known, 3, (some .int), 2, 0)
theorem vX12_known : zm_yv yX12_known kX12_known 0 := ⟨⟨by decide, by decide, by decide +kernel⟩, zm_in (by decide +kernel) (by decide +kernel), zm_in (by decide +kernel) (by decide +kernel), by decide, zm_in (by decide +kernel) (by decide +kernel), zm_in (by decide +kernel) (by decide +kernel)⟩
abbrev kX12_floor : zK := (cX12_floor, 2, (some .int), 1, 0)
theorem vX12_floor : zm_ys yX12_floor kX12_floor 2 := ⟨⟨by decide, by decide, by decide +kernel⟩, zm_in (by decide +kernel) (by decide +kernel), zm_in (by decide +kernel) (by decide +kernel), by decide, zm_in (by decide +kernel) (by decide +kernel)⟩
abbrev kX12_standsAt : zK := (cX12_standsAt, 8, (some .boolean), 2, 0)
theorem vX12_standsAt : zm_yv yX12_standsAt kX12_standsAt 3 := ⟨⟨by decide, by decide, by decide +kernel⟩, zm_in (by decide +kernel) (by decide +kernel), zm_in (by decide +kernel) (by decide +kernel), by decide, zm_in (by decide +kernel) (by decide +kernel), zm_in (by decide +kernel) (by decide +kernel)⟩
abbrev kX12_standsBy : zK := (cX12_standsBy, 6, (some .int), 3, 0)
theorem vX12_standsBy : zm_yv yX12_standsBy kX12_standsBy 3 := ⟨⟨by decide, by decide, by decide +kernel⟩, zm_in (by decide +kernel) (by decide +kernel), zm_in (by decide +kernel) (by decide +kernel), by decide, zm_in (by decide +kernel) (by decide +kernel), zm_in (by decide +kernel) (by decide +kernel)⟩
abbrev kX12_hasInk : zK := (cX12_hasInk, 3, (some .boolean), 2, 0)
theorem vX12_hasInk : zm_yv yX12_hasInk kX12_hasInk 1 := ⟨⟨by decide, by decide, by decide +kernel⟩, zm_in (by decide +kernel) (by decide +kernel), zm_in (by decide +kernel) (by decide +kernel), by decide, zm_in (by decide +kernel) (by decide +kernel), zm_in (by decide +kernel) (by decide +kernel)⟩
abbrev kX12_stands : zK := (cX12_stands, 3, (some .int), 4, 0)
theorem vX12_stands : zm_yv yX12_stands kX12_stands 2 := ⟨⟨by decide, by decide, by decide +kernel⟩, zm_in (by decide +kernel) (by decide +kernel), zm_in (by decide +kernel) (by decide +kernel), by decide, zm_in (by decide +kernel) (by decide +kernel), zm_in (by decide +kernel) (by decide +kernel)⟩
abbrev kX12_letter : zK := (cX12_letter, 4, (some .int), 4, 0)
theorem vX12_letter : zm_yv yX12_letter kX12_letter 3 := ⟨⟨by decide, by decide, by decide +kernel⟩, zm_in (by decide +kernel) (by decide +kernel), zm_in (by decide +kernel) (by decide +kernel), by decide, zm_in (by decide +kernel) (by decide +kernel), zm_in (by decide +kernel) (by decide +kernel)⟩
abbrev kX12_width : zK := (cX12_width, 7, (some .int), 4, 0)
theorem vX12_width : zm_yv yX12_width kX12_width 3 := ⟨⟨by decide, by decide, by decide +kernel⟩, zm_in (by decide +kernel) (by decide +kernel), zm_in (by decide +kernel) (by decide +kernel), by decide, zm_in (by decide +kernel) (by decide +kernel), zm_in (by decide +kernel) (by decide +kernel)⟩
abbrev kX0_init : zK := (cX0_init, 2, none, 3, 12)
theorem vX0_init : zm_yi yX0_init kX0_init 1 := ⟨⟨by decide, by decide, by decide +kernel⟩, zm_in (by decide +kernel) (by decide +kernel), zm_in (by decide +kernel) (by decide +kernel), by decide, zm_in (by decide +kernel) (by decide +kernel), rfl, rfl⟩
abbrev kX0_cellsTold : zK := (cX0_cellsTold, 6, (some .int), 3, 0)
theorem vX0_cellsTold : zm_ys yX0_cellsTold kX0_cellsTold 1 := ⟨⟨by decide, by decide, by decide +kernel⟩, zm_in (by decide +kernel) (by decide +kernel), zm_in (by decide +kernel) (by decide +kernel), by decide, zm_in (by decide +kernel) (by decide +kernel)⟩
abbrev kX0_isSign : zK := (cX0_isSign, 1, (some .boolean), 2, 0)
theorem vX0_isSign : zm_ys yX0_isSign kX0_isSign 1 := ⟨⟨by decide, by decide, by decide +kernel⟩, zm_in (by decide +kernel) (by decide +kernel), zm_in (by decide +kernel) (by decide +kernel), by decide, zm_in (by decide +kernel) (by decide +kernel)⟩
abbrev kX0_become : zK := (cX0_become, 6, none, 3, 0)
theorem vX0_become : zm_yv yX0_become kX0_become 1 := ⟨⟨by decide, by decide, by decide +kernel⟩, zm_in (by decide +kernel) (by decide +kernel), zm_in (by decide +kernel) (by decide +kernel), by decide, zm_in (by decide +kernel) (by decide +kernel), zm_in (by decide +kernel) (by decide +kernel)⟩
abbrev kX0_clear : zK := (cX0_clear, 2, none, 2, 0)
theorem vX0_clear : zm_yv yX0_clear kX0_clear 0 := ⟨⟨by decide, by decide, by decide +kernel⟩, zm_in (by decide +kernel) (by decide +kernel), zm_in (by decide +kernel) (by decide +kernel), by decide, zm_in (by decide +kernel) (by decide +kernel), zm_in (by decide +kernel) (by decide +kernel)⟩
abbrev kX0_addCell : zK := (cX0_addCell, 4, none, 2, 0)
theorem vX0_addCell : zm_yv yX0_addCell kX0_addCell 3 := ⟨⟨by decide, by decide, by decide +kernel⟩, zm_in (by decide +kernel) (by decide +kernel), zm_in (by decide +kernel) (by decide +kernel), by decide, zm_in (by decide +kernel) (by decide +kernel), zm_in (by decide +kernel) (by decide +kernel)⟩
abbrev kX0_hasCell : zK := (cX0_hasCell, 3, (some .boolean), 1, 0)
theorem vX0_hasCell : zm_yv yX0_hasCell kX0_hasCell 2 := ⟨⟨by decide, by decide, by decide +kernel⟩, zm_in (by decide +kernel) (by decide +kernel), zm_in (by decide +kernel) (by decide +kernel), by decide, zm_in (by decide +kernel) (by decide +kernel), zm_in (by decide +kernel) (by decide +kernel)⟩
abbrev kX0_addHole : zK := (cX0_addHole, 3, (some .int), 1, 0)
theorem vX0_addHole : zm_yv yX0_addHole kX0_addHole 1 := ⟨⟨by decide, by decide, by decide +kernel⟩, zm_in (by decide +kernel) (by decide +kernel), zm_in (by decide +kernel) (by decide +kernel), by decide, zm_in (by decide +kernel) (by decide +kernel), zm_in (by decide +kernel) (by decide +kernel)⟩
abbrev kX1_init : zK := (cX1_init, 2, none, 2, 2)
theorem vX1_init : zm_yi yX1_init kX1_init 1 := ⟨⟨by decide, by decide, by decide +kernel⟩, zm_in (by decide +kernel) (by decide +kernel), zm_in (by decide +kernel) (by decide +kernel), by decide, zm_in (by decide +kernel) (by decide +kernel), rfl, rfl⟩
abbrev kX1_clear : zK := (cX1_clear, 2, none, 1, 0)
theorem vX1_clear : zm_yv yX1_clear kX1_clear 0 := ⟨⟨by decide, by decide, by decide +kernel⟩, zm_in (by decide +kernel) (by decide +kernel), zm_in (by decide +kernel) (by decide +kernel), by decide, zm_in (by decide +kernel) (by decide +kernel), zm_in (by decide +kernel) (by decide +kernel)⟩
abbrev kX1_told : zK := (cX1_told, 2, (some .int), 1, 0)
theorem vX1_told : zm_yv yX1_told kX1_told 1 := ⟨⟨by decide, by decide, by decide +kernel⟩, zm_in (by decide +kernel) (by decide +kernel), zm_in (by decide +kernel) (by decide +kernel), by decide, zm_in (by decide +kernel) (by decide +kernel), zm_in (by decide +kernel) (by decide +kernel)⟩
abbrev kX1_worthBeside : zK := (cX1_worthBeside, 7, (some .int), 2, 0)
theorem vX1_worthBeside : zm_yv yX1_worthBeside kX1_worthBeside 2 := ⟨⟨by decide, by decide, by decide +kernel⟩, zm_in (by decide +kernel) (by decide +kernel), zm_in (by decide +kernel) (by decide +kernel), by decide, zm_in (by decide +kernel) (by decide +kernel), zm_in (by decide +kernel) (by decide +kernel)⟩
abbrev kX2_init : zK := (cX2_init, 1, none, 2, 1)
theorem vX2_init : zm_yi yX2_init kX2_init 0 := ⟨⟨by decide, by decide, by decide +kernel⟩, zm_in (by decide +kernel) (by decide +kernel), zm_in (by decide +kernel) (by decide +kernel), by decide, zm_in (by decide +kernel) (by decide +kernel), rfl, rfl⟩
abbrev kX2_become : zK := (cX2_become, 2, none, 2, 0)
theorem vX2_become : zm_yv yX2_become kX2_become 1 := ⟨⟨by decide, by decide, by decide +kernel⟩, zm_in (by decide +kernel) (by decide +kernel), zm_in (by decide +kernel) (by decide +kernel), by decide, zm_in (by decide +kernel) (by decide +kernel), zm_in (by decide +kernel) (by decide +kernel)⟩
abbrev kX2_countTimes : zK := (cX2_countTimes, 5, (some .int), 3, 0)
theorem vX2_countTimes : zm_yv yX2_countTimes kX2_countTimes 2 := ⟨⟨by decide, by decide, by decide +kernel⟩, zm_in (by decide +kernel) (by decide +kernel), zm_in (by decide +kernel) (by decide +kernel), by decide, zm_in (by decide +kernel) (by decide +kernel), zm_in (by decide +kernel) (by decide +kernel)⟩
abbrev kX2_timeOf : zK := (cX2_timeOf, 7, (some .int), 3, 0)
theorem vX2_timeOf : zm_yv yX2_timeOf kX2_timeOf 3 := ⟨⟨by decide, by decide, by decide +kernel⟩, zm_in (by decide +kernel) (by decide +kernel), zm_in (by decide +kernel) (by decide +kernel), by decide, zm_in (by decide +kernel) (by decide +kernel), zm_in (by decide +kernel) (by decide +kernel)⟩
abbrev kX2_firstShift : zK := (cX2_firstShift, 4, (some .int), 1, 0)
theorem vX2_firstShift : zm_yv yX2_firstShift kX2_firstShift 2 := ⟨⟨by decide, by decide, by decide +kernel⟩, zm_in (by decide +kernel) (by decide +kernel), zm_in (by decide +kernel) (by decide +kernel), by decide, zm_in (by decide +kernel) (by decide +kernel), zm_in (by decide +kernel) (by decide +kernel)⟩
abbrev kX2_standsAt : zK := (cX2_standsAt, 7, (some .boolean), 2, 0)
theorem vX2_standsAt : zm_yv yX2_standsAt kX2_standsAt 3 := ⟨⟨by decide, by decide, by decide +kernel⟩, zm_in (by decide +kernel) (by decide +kernel), zm_in (by decide +kernel) (by decide +kernel), by decide, zm_in (by decide +kernel) (by decide +kernel), zm_in (by decide +kernel) (by decide +kernel)⟩
abbrev kX2_agrees : zK := (cX2_agrees, 3, (some .boolean), 1, 0)
theorem vX2_agrees : zm_yv yX2_agrees kX2_agrees 2 := ⟨⟨by decide, by decide, by decide +kernel⟩, zm_in (by decide +kernel) (by decide +kernel), zm_in (by decide +kernel) (by decide +kernel), by decide, zm_in (by decide +kernel) (by decide +kernel), zm_in (by decide +kernel) (by decide +kernel)⟩
abbrev kX3_init : zK := (cX3_init, 2, none, 2, 2)
theorem vX3_init : zm_yi yX3_init kX3_init 1 := ⟨⟨by decide, by decide, by decide +kernel⟩, zm_in (by decide +kernel) (by decide +kernel), zm_in (by decide +kernel) (by decide +kernel), by decide, zm_in (by decide +kernel) (by decide +kernel), rfl, rfl⟩
abbrev kX3_has : zK := (cX3_has, 2, (some .boolean), 1, 0)
theorem vX3_has : zm_yv yX3_has kX3_has 1 := ⟨⟨by decide, by decide, by decide +kernel⟩, zm_in (by decide +kernel) (by decide +kernel), zm_in (by decide +kernel) (by decide +kernel), by decide, zm_in (by decide +kernel) (by decide +kernel), zm_in (by decide +kernel) (by decide +kernel)⟩
abbrev kX3_worthOf : zK := (cX3_worthOf, 7, (some .int), 2, 0)
theorem vX3_worthOf : zm_yv yX3_worthOf kX3_worthOf 2 := ⟨⟨by decide, by decide, by decide +kernel⟩, zm_in (by decide +kernel) (by decide +kernel), zm_in (by decide +kernel) (by decide +kernel), by decide, zm_in (by decide +kernel) (by decide +kernel), zm_in (by decide +kernel) (by decide +kernel)⟩
abbrev kX3_change : zK := (cX3_change, 7, none, 2, 0)
theorem vX3_change : zm_yv yX3_change kX3_change 3 := ⟨⟨by decide, by decide, by decide +kernel⟩, zm_in (by decide +kernel) (by decide +kernel), zm_in (by decide +kernel) (by decide +kernel), by decide, zm_in (by decide +kernel) (by decide +kernel), zm_in (by decide +kernel) (by decide +kernel)⟩
abbrev kX3_pairsWorth : zK := (cX3_pairsWorth, 3, (some .int), 1, 0)
theorem vX3_pairsWorth : zm_yv yX3_pairsWorth kX3_pairsWorth 0 := ⟨⟨by decide, by decide, by decide +kernel⟩, zm_in (by decide +kernel) (by decide +kernel), zm_in (by decide +kernel) (by decide +kernel), by decide, zm_in (by decide +kernel) (by decide +kernel), zm_in (by decide +kernel) (by decide +kernel)⟩
abbrev kX4_init : zK := (cX4_init, 1, none, 2, 3)
theorem vX4_init : zm_yi yX4_init kX4_init 0 := ⟨⟨by decide, by decide, by decide +kernel⟩, zm_in (by decide +kernel) (by decide +kernel), zm_in (by decide +kernel) (by decide +kernel), by decide, zm_in (by decide +kernel) (by decide +kernel), rfl, rfl⟩
abbrev kX4_compare : zK := (cX4_compare, 6, none, 3, 0)
theorem vX4_compare : zm_yv yX4_compare kX4_compare 2 := ⟨⟨by decide, by decide, by decide +kernel⟩, zm_in (by decide +kernel) (by decide +kernel), zm_in (by decide +kernel) (by decide +kernel), by decide, zm_in (by decide +kernel) (by decide +kernel), zm_in (by decide +kernel) (by decide +kernel)⟩
abbrev kX4_countSides : zK := (cX4_countSides, 8, (some .int), 2, 0)
theorem vX4_countSides : zm_ys yX4_countSides kX4_countSides 4 := ⟨⟨by decide, by decide, by decide +kernel⟩, zm_in (by decide +kernel) (by decide +kernel), zm_in (by decide +kernel) (by decide +kernel), by decide, zm_in (by decide +kernel) (by decide +kernel)⟩
abbrev kX4_one : zK := (cX4_one, 1, (some .int), 1, 0)
theorem vX4_one : zm_ys yX4_one kX4_one 1 := ⟨⟨by decide, by decide, by decide +kernel⟩, zm_in (by decide +kernel) (by decide +kernel), zm_in (by decide +kernel) (by decide +kernel), by decide, zm_in (by decide +kernel) (by decide +kernel)⟩
abbrev kX4_sidesAt : zK := (cX4_sidesAt, 3, (some .int), 2, 0)
theorem vX4_sidesAt : zm_yv yX4_sidesAt kX4_sidesAt 2 := ⟨⟨by decide, by decide, by decide +kernel⟩, zm_in (by decide +kernel) (by decide +kernel), zm_in (by decide +kernel) (by decide +kernel), by decide, zm_in (by decide +kernel) (by decide +kernel), zm_in (by decide +kernel) (by decide +kernel)⟩
abbrev kX4_acrossAt : zK := (cX4_acrossAt, 2, (some .int), 2, 0)
theorem vX4_acrossAt : zm_yv yX4_acrossAt kX4_acrossAt 1 := ⟨⟨by decide, by decide, by decide +kernel⟩, zm_in (by decide +kernel) (by decide +kernel), zm_in (by decide +kernel) (by decide +kernel), by decide, zm_in (by decide +kernel) (by decide +kernel), zm_in (by decide +kernel) (by decide +kernel)⟩
abbrev kX4_downAt : zK := (cX4_downAt, 2, (some .int), 2, 0)
theorem vX4_downAt : zm_yv yX4_downAt kX4_downAt 1 := ⟨⟨by decide, by decide, by decide +kernel⟩, zm_in (by decide +kernel) (by decide +kernel), zm_in (by decide +kernel) (by decide +kernel), by decide, zm_in (by decide +kernel) (by decide +kernel), zm_in (by decide +kernel) (by decide +kernel)⟩
abbrev kX4_rowsMeet : zK := (cX4_rowsMeet, 2, (some .boolean), 1, 0)
theorem vX4_rowsMeet : zm_yv yX4_rowsMeet kX4_rowsMeet 1 := ⟨⟨by decide, by decide, by decide +kernel⟩, zm_in (by decide +kernel) (by decide +kernel), zm_in (by decide +kernel) (by decide +kernel), by decide, zm_in (by decide +kernel) (by decide +kernel), zm_in (by decide +kernel) (by decide +kernel)⟩
abbrev kX4_columnsMeet : zK := (cX4_columnsMeet, 2, (some .boolean), 1, 0)
theorem vX4_columnsMeet : zm_yv yX4_columnsMeet kX4_columnsMeet 1 := ⟨⟨by decide, by decide, by decide +kernel⟩, zm_in (by decide +kernel) (by decide +kernel), zm_in (by decide +kernel) (by decide +kernel), by decide, zm_in (by decide +kernel) (by decide +kernel), zm_in (by decide +kernel) (by decide +kernel)⟩
abbrev kX5_init : zK := (cX5_init, 1, none, 2, 4)
theorem vX5_init : zm_yi yX5_init kX5_init 0 := ⟨⟨by decide, by decide, by decide +kernel⟩, zm_in (by decide +kernel) (by decide +kernel), zm_in (by decide +kernel) (by decide +kernel), by decide, zm_in (by decide +kernel) (by decide +kernel), rfl, rfl⟩
abbrev kX5_collect : zK := (cX5_collect, 9, none, 5, 0)
theorem vX5_collect : zm_yv yX5_collect kX5_collect 4 := ⟨⟨by decide, by decide, by decide +kernel⟩, zm_in (by decide +kernel) (by decide +kernel), zm_in (by decide +kernel) (by decide +kernel), by decide, zm_in (by decide +kernel) (by decide +kernel), zm_in (by decide +kernel) (by decide +kernel)⟩
abbrev kX5_add : zK := (cX5_add, 5, none, 1, 0)
theorem vX5_add : zm_yv yX5_add kX5_add 4 := ⟨⟨by decide, by decide, by decide +kernel⟩, zm_in (by decide +kernel) (by decide +kernel), zm_in (by decide +kernel) (by decide +kernel), by decide, zm_in (by decide +kernel) (by decide +kernel), zm_in (by decide +kernel) (by decide +kernel)⟩
abbrev kX5_best : zK := (cX5_best, 3, (some .int), 1, 0)
theorem vX5_best : zm_yv yX5_best kX5_best 0 := ⟨⟨by decide, by decide, by decide +kernel⟩, zm_in (by decide +kernel) (by decide +kernel), zm_in (by decide +kernel) (by decide +kernel), by decide, zm_in (by decide +kernel) (by decide +kernel), zm_in (by decide +kernel) (by decide +kernel)⟩
abbrev kX5_listTouching : zK := (cX5_listTouching, 4, (some .int), 1, 0)
theorem vX5_listTouching : zm_yv yX5_listTouching kX5_listTouching 1 := ⟨⟨by decide, by decide, by decide +kernel⟩, zm_in (by decide +kernel) (by decide +kernel), zm_in (by decide +kernel) (by decide +kernel), by decide, zm_in (by decide +kernel) (by decide +kernel), zm_in (by decide +kernel) (by decide +kernel)⟩
abbrev kX6_init : zK := (cX6_init, 1, none, 2, 1)
theorem vX6_init : zm_yi yX6_init kX6_init 0 := ⟨⟨by decide, by decide, by decide +kernel⟩, zm_in (by decide +kernel) (by decide +kernel), zm_in (by decide +kernel) (by decide +kernel), by decide, zm_in (by decide +kernel) (by decide +kernel), rfl, rfl⟩
abbrev kX6_bore : zK := (cX6_bore, 4, none, 1, 0)
theorem vX6_bore : zm_yv yX6_bore kX6_bore 2 := ⟨⟨by decide, by decide, by decide +kernel⟩, zm_in (by decide +kernel) (by decide +kernel), zm_in (by decide +kernel) (by decide +kernel), by decide, zm_in (by decide +kernel) (by decide +kernel), zm_in (by decide +kernel) (by decide +kernel)⟩
abbrev kX6_stoodBy : zK := (cX6_stoodBy, 6, (some .boolean), 1, 0)
theorem vX6_stoodBy : zm_yv yX6_stoodBy kX6_stoodBy 2 := ⟨⟨by decide, by decide, by decide +kernel⟩, zm_in (by decide +kernel) (by decide +kernel), zm_in (by decide +kernel) (by decide +kernel), by decide, zm_in (by decide +kernel) (by decide +kernel), zm_in (by decide +kernel) (by decide +kernel)⟩
abbrev kX6_countPlaces : zK := (cX6_countPlaces, 4, (some .int), 2, 0)
theorem vX6_countPlaces : zm_yv yX6_countPlaces kX6_countPlaces 1 := ⟨⟨by decide, by decide, by decide +kernel⟩, zm_in (by decide +kernel) (by decide +kernel), zm_in (by decide +kernel) (by decide +kernel), by decide, zm_in (by decide +kernel) (by decide +kernel), zm_in (by decide +kernel) (by decide +kernel)⟩
abbrev kX6_placeOf : zK := (cX6_placeOf, 5, (some .int), 2, 0)
theorem vX6_placeOf : zm_yv yX6_placeOf kX6_placeOf 2 := ⟨⟨by decide, by decide, by decide +kernel⟩, zm_in (by decide +kernel) (by decide +kernel), zm_in (by decide +kernel) (by decide +kernel), by decide, zm_in (by decide +kernel) (by decide +kernel), zm_in (by decide +kernel) (by decide +kernel)⟩
abbrev kX7_init : zK := (cX7_init, 1, none, 3, 15)
theorem vX7_init : zm_yi yX7_init kX7_init 0 := ⟨⟨by decide, by decide, by decide +kernel⟩, zm_in (by decide +kernel) (by decide +kernel), zm_in (by decide +kernel) (by decide +kernel), by decide, zm_in (by decide +kernel) (by decide +kernel), rfl, rfl⟩
abbrev kX7_countAlone : zK := (cX7_countAlone, 4, (some .int), 6, 0)
theorem vX7_countAlone : zm_yv yX7_countAlone kX7_countAlone 3 := ⟨⟨by decide, by decide, by decide +kernel⟩, zm_in (by decide +kernel) (by decide +kernel), zm_in (by decide +kernel) (by decide +kernel), by decide, zm_in (by decide +kernel) (by decide +kernel), zm_in (by decide +kernel) (by decide +kernel)⟩
abbrev kX7_joinAlone : zK := (cX7_joinAlone, 5, (some .boolean), 6, 0)
theorem vX7_joinAlone : zm_yv yX7_joinAlone kX7_joinAlone 3 := ⟨⟨by decide, by decide, by decide +kernel⟩, zm_in (by decide +kernel) (by decide +kernel), zm_in (by decide +kernel) (by decide +kernel), by decide, zm_in (by decide +kernel) (by decide +kernel), zm_in (by decide +kernel) (by decide +kernel)⟩
abbrev kX7_joinBoth : zK := (cX7_joinBoth, 8, (some .boolean), 6, 0)
theorem vX7_joinBoth : zm_yv yX7_joinBoth kX7_joinBoth 4 := ⟨⟨by decide, by decide, by decide +kernel⟩, zm_in (by decide +kernel) (by decide +kernel), zm_in (by decide +kernel) (by decide +kernel), by decide, zm_in (by decide +kernel) (by decide +kernel), zm_in (by decide +kernel) (by decide +kernel)⟩
abbrev kX7_weigh : zK := (cX7_weigh, 9, none, 5, 0)
theorem vX7_weigh : zm_yv yX7_weigh kX7_weigh 6 := ⟨⟨by decide, by decide, by decide +kernel⟩, zm_in (by decide +kernel) (by decide +kernel), zm_in (by decide +kernel) (by decide +kernel), by decide, zm_in (by decide +kernel) (by decide +kernel), zm_in (by decide +kernel) (by decide +kernel)⟩
abbrev kX7_gainOf : zK := (cX7_gainOf, 9, (some .int), 3, 0)
theorem vX7_gainOf : zm_yv yX7_gainOf kX7_gainOf 2 := ⟨⟨by decide, by decide, by decide +kernel⟩, zm_in (by decide +kernel) (by decide +kernel), zm_in (by decide +kernel) (by decide +kernel), by decide, zm_in (by decide +kernel) (by decide +kernel), zm_in (by decide +kernel) (by decide +kernel)⟩
abbrev kX8_init : zK := (cX8_init, 2, none, 3, 8)
theorem vX8_init : zm_yi yX8_init kX8_init 0 := ⟨⟨by decide, by decide, by decide +kernel⟩, zm_in (by decide +kernel) (by decide +kernel), zm_in (by decide +kernel) (by decide +kernel), by decide, zm_in (by decide +kernel) (by decide +kernel), rfl, rfl⟩
abbrev kX8_isInside : zK := (cX8_isInside, 2, (some .boolean), 1, 0)
theorem vX8_isInside : zm_ys yX8_isInside kX8_isInside 2 := ⟨⟨by decide, by decide, by decide +kernel⟩, zm_in (by decide +kernel) (by decide +kernel), zm_in (by decide +kernel) (by decide +kernel), by decide, zm_in (by decide +kernel) (by decide +kernel)⟩
abbrev kX8_signAt : zK := (cX8_signAt, 3, (some .int), 1, 0)
theorem vX8_signAt : zm_yv yX8_signAt kX8_signAt 2 := ⟨⟨by decide, by decide, by decide +kernel⟩, zm_in (by decide +kernel) (by decide +kernel), zm_in (by decide +kernel) (by decide +kernel), by decide, zm_in (by decide +kernel) (by decide +kernel), zm_in (by decide +kernel) (by decide +kernel)⟩
abbrev kX8_ownerAt : zK := (cX8_ownerAt, 3, (some .int), 2, 0)
theorem vX8_ownerAt : zm_yv yX8_ownerAt kX8_ownerAt 2 := ⟨⟨by decide, by decide, by decide +kernel⟩, zm_in (by decide +kernel) (by decide +kernel), zm_in (by decide +kernel) (by decide +kernel), by decide, zm_in (by decide +kernel) (by decide +kernel), zm_in (by decide +kernel) (by decide +kernel)⟩
abbrev kX8_hasRoom : zK := (cX8_hasRoom, 7, (some .boolean), 2, 0)
theorem vX8_hasRoom : zm_yv yX8_hasRoom kX8_hasRoom 3 := ⟨⟨by decide, by decide, by decide +kernel⟩, zm_in (by decide +kernel) (by decide +kernel), zm_in (by decide +kernel) (by decide +kernel), by decide, zm_in (by decide +kernel) (by decide +kernel), zm_in (by decide +kernel) (by decide +kernel)⟩
abbrev kX8_fibreWorth : zK := (cX8_fibreWorth, 6, (some .int), 3, 0)
theorem vX8_fibreWorth : zm_yv yX8_fibreWorth kX8_fibreWorth 3 := ⟨⟨by decide, by decide, by decide +kernel⟩, zm_in (by decide +kernel) (by decide +kernel), zm_in (by decide +kernel) (by decide +kernel), by decide, zm_in (by decide +kernel) (by decide +kernel), zm_in (by decide +kernel) (by decide +kernel)⟩
abbrev kX8_sidesOf : zK := (cX8_sidesOf, 8, (some .int), 4, 0)
theorem vX8_sidesOf : zm_yv yX8_sidesOf kX8_sidesOf 3 := ⟨⟨by decide, by decide, by decide +kernel⟩, zm_in (by decide +kernel) (by decide +kernel), zm_in (by decide +kernel) (by decide +kernel), by decide, zm_in (by decide +kernel) (by decide +kernel), zm_in (by decide +kernel) (by decide +kernel)⟩
abbrev kX8_taken : zK := (cX8_taken, 3, (some .int), 3, 0)
theorem vX8_taken : zm_yv yX8_taken kX8_taken 2 := ⟨⟨by decide, by decide, by decide +kernel⟩, zm_in (by decide +kernel) (by decide +kernel), zm_in (by decide +kernel) (by decide +kernel), by decide, zm_in (by decide +kernel) (by decide +kernel), zm_in (by decide +kernel) (by decide +kernel)⟩
abbrev kX8_allRunsCan : zK := (cX8_allRunsCan, 3, (some .boolean), 4, 0)
theorem vX8_allRunsCan : zm_yv yX8_allRunsCan kX8_allRunsCan 1 := ⟨⟨by decide, by decide, by decide +kernel⟩, zm_in (by decide +kernel) (by decide +kernel), zm_in (by decide +kernel) (by decide +kernel), by decide, zm_in (by decide +kernel) (by decide +kernel), zm_in (by decide +kernel) (by decide +kernel)⟩
abbrev kX8_runsCanWith : zK := (cX8_runsCanWith, 7, (some .boolean), 4, 0)
theorem vX8_runsCanWith : zm_yv yX8_runsCanWith kX8_runsCanWith 4 := ⟨⟨by decide, by decide, by decide +kernel⟩, zm_in (by decide +kernel) (by decide +kernel), zm_in (by decide +kernel) (by decide +kernel), by decide, zm_in (by decide +kernel) (by decide +kernel), zm_in (by decide +kernel) (by decide +kernel)⟩
abbrev kX8_runsCan : zK := (cX8_runsCan, 8, (some .boolean), 3, 0)
theorem vX8_runsCan : zm_yv yX8_runsCan kX8_runsCan 4 := ⟨⟨by decide, by decide, by decide +kernel⟩, zm_in (by decide +kernel) (by decide +kernel), zm_in (by decide +kernel) (by decide +kernel), by decide, zm_in (by decide +kernel) (by decide +kernel), zm_in (by decide +kernel) (by decide +kernel)⟩
abbrev kX8_startOfRun : zK := (cX8_startOfRun, 4, (some .int), 2, 0)
theorem vX8_startOfRun : zm_yv yX8_startOfRun kX8_startOfRun 2 := ⟨⟨by decide, by decide, by decide +kernel⟩, zm_in (by decide +kernel) (by decide +kernel), zm_in (by decide +kernel) (by decide +kernel), by decide, zm_in (by decide +kernel) (by decide +kernel), zm_in (by decide +kernel) (by decide +kernel)⟩
abbrev kX8_followRun : zK := (cX8_followRun, 6, none, 3, 0)
theorem vX8_followRun : zm_yv yX8_followRun kX8_followRun 3 := ⟨⟨by decide, by decide, by decide +kernel⟩, zm_in (by decide +kernel) (by decide +kernel), zm_in (by decide +kernel) (by decide +kernel), by decide, zm_in (by decide +kernel) (by decide +kernel), zm_in (by decide +kernel) (by decide +kernel)⟩
abbrev kX8_wholeWorth : zK := (cX8_wholeWorth, 5, (some .int), 3, 0)
theorem vX8_wholeWorth : zm_yv yX8_wholeWorth kX8_wholeWorth 0 := ⟨⟨by decide, by decide, by decide +kernel⟩, zm_in (by decide +kernel) (by decide +kernel), zm_in (by decide +kernel) (by decide +kernel), by decide, zm_in (by decide +kernel) (by decide +kernel), zm_in (by decide +kernel) (by decide +kernel)⟩
abbrev kX8_meet : zK := (cX8_meet, 2, (some .int), 1, 0)
theorem vX8_meet : zm_ys yX8_meet kX8_meet 2 := ⟨⟨by decide, by decide, by decide +kernel⟩, zm_in (by decide +kernel) (by decide +kernel), zm_in (by decide +kernel) (by decide +kernel), by decide, zm_in (by decide +kernel) (by decide +kernel)⟩
abbrev kX8_write : zK := (cX8_write, 7, none, 2, 0)
theorem vX8_write : zm_yv yX8_write kX8_write 3 := ⟨⟨by decide, by decide, by decide +kernel⟩, zm_in (by decide +kernel) (by decide +kernel), zm_in (by decide +kernel) (by decide +kernel), by decide, zm_in (by decide +kernel) (by decide +kernel), zm_in (by decide +kernel) (by decide +kernel)⟩
abbrev kX8_wipe : zK := (cX8_wipe, 7, none, 2, 0)
theorem vX8_wipe : zm_yv yX8_wipe kX8_wipe 3 := ⟨⟨by decide, by decide, by decide +kernel⟩, zm_in (by decide +kernel) (by decide +kernel), zm_in (by decide +kernel) (by decide +kernel), by decide, zm_in (by decide +kernel) (by decide +kernel), zm_in (by decide +kernel) (by decide +kernel)⟩
abbrev kX8_put : zK := (cX8_put, 4, none, 3, 0)
theorem vX8_put : zm_yv yX8_put kX8_put 3 := ⟨⟨by decide, by decide, by decide +kernel⟩, zm_in (by decide +kernel) (by decide +kernel), zm_in (by decide +kernel) (by decide +kernel), by decide, zm_in (by decide +kernel) (by decide +kernel), zm_in (by decide +kernel) (by decide +kernel)⟩
abbrev kX8_remove : zK := (cX8_remove, 2, none, 3, 0)
theorem vX8_remove : zm_yv yX8_remove kX8_remove 1 := ⟨⟨by decide, by decide, by decide +kernel⟩, zm_in (by decide +kernel) (by decide +kernel), zm_in (by decide +kernel) (by decide +kernel), by decide, zm_in (by decide +kernel) (by decide +kernel), zm_in (by decide +kernel) (by decide +kernel)⟩
abbrev kX8_own : zK := (cX8_own, 8, none, 2, 0)
theorem vX8_own : zm_yv yX8_own kX8_own 4 := ⟨⟨by decide, by decide, by decide +kernel⟩, zm_in (by decide +kernel) (by decide +kernel), zm_in (by decide +kernel) (by decide +kernel), by decide, zm_in (by decide +kernel) (by decide +kernel), zm_in (by decide +kernel) (by decide +kernel)⟩
abbrev kX9_init : zK := (cX9_init, 1, none, 2, 1)
theorem vX9_init : zm_yi yX9_init kX9_init 0 := ⟨⟨by decide, by decide, by decide +kernel⟩, zm_in (by decide +kernel) (by decide +kernel), zm_in (by decide +kernel) (by decide +kernel), by decide, zm_in (by decide +kernel) (by decide +kernel), rfl, rfl⟩
abbrev kX9_append : zK := (cX9_append, 3, none, 1, 0)
theorem vX9_append : zm_yv yX9_append kX9_append 1 := ⟨⟨by decide, by decide, by decide +kernel⟩, zm_in (by decide +kernel) (by decide +kernel), zm_in (by decide +kernel) (by decide +kernel), by decide, zm_in (by decide +kernel) (by decide +kernel), zm_in (by decide +kernel) (by decide +kernel)⟩
abbrev kX9_isLetters : zK := (cX9_isLetters, 3, (some .boolean), 2, 0)
theorem vX9_isLetters : zm_yv yX9_isLetters kX9_isLetters 1 := ⟨⟨by decide, by decide, by decide +kernel⟩, zm_in (by decide +kernel) (by decide +kernel), zm_in (by decide +kernel) (by decide +kernel), by decide, zm_in (by decide +kernel) (by decide +kernel), zm_in (by decide +kernel) (by decide +kernel)⟩
abbrev kX10_init : zK := (cX10_init, 1, none, 2, 7)
theorem vX10_init : zm_yi yX10_init kX10_init 0 := ⟨⟨by decide, by decide, by decide +kernel⟩, zm_in (by decide +kernel) (by decide +kernel), zm_in (by decide +kernel) (by decide +kernel), by decide, zm_in (by decide +kernel) (by decide +kernel), rfl, rfl⟩
abbrev kX10_append : zK := (cX10_append, 7, none, 2, 0)
theorem vX10_append : zm_yv yX10_append kX10_append 1 := ⟨⟨by decide, by decide, by decide +kernel⟩, zm_in (by decide +kernel) (by decide +kernel), zm_in (by decide +kernel) (by decide +kernel), by decide, zm_in (by decide +kernel) (by decide +kernel), zm_in (by decide +kernel) (by decide +kernel)⟩
abbrev kX10_indexOf : zK := (cX10_indexOf, 1, (some .int), 1, 0)
theorem vX10_indexOf : zm_ys yX10_indexOf kX10_indexOf 1 := ⟨⟨by decide, by decide, by decide +kernel⟩, zm_in (by decide +kernel) (by decide +kernel), zm_in (by decide +kernel) (by decide +kernel), by decide, zm_in (by decide +kernel) (by decide +kernel)⟩
abbrev kX10_beginRun : zK := (cX10_beginRun, 3, none, 1, 0)
theorem vX10_beginRun : zm_yv yX10_beginRun kX10_beginRun 1 := ⟨⟨by decide, by decide, by decide +kernel⟩, zm_in (by decide +kernel) (by decide +kernel), zm_in (by decide +kernel) (by decide +kernel), by decide, zm_in (by decide +kernel) (by decide +kernel), zm_in (by decide +kernel) (by decide +kernel)⟩
abbrev kX10_nextSign : zK := (cX10_nextSign, 4, none, 2, 0)
theorem vX10_nextSign : zm_yv yX10_nextSign kX10_nextSign 1 := ⟨⟨by decide, by decide, by decide +kernel⟩, zm_in (by decide +kernel) (by decide +kernel), zm_in (by decide +kernel) (by decide +kernel), by decide, zm_in (by decide +kernel) (by decide +kernel), zm_in (by decide +kernel) (by decide +kernel)⟩
abbrev kX10_endRun : zK := (cX10_endRun, 3, none, 1, 0)
theorem vX10_endRun : zm_yv yX10_endRun kX10_endRun 1 := ⟨⟨by decide, by decide, by decide +kernel⟩, zm_in (by decide +kernel) (by decide +kernel), zm_in (by decide +kernel) (by decide +kernel), by decide, zm_in (by decide +kernel) (by decide +kernel), zm_in (by decide +kernel) (by decide +kernel)⟩
abbrev kX10_canBeSome : zK := (cX10_canBeSome, 1, (some .boolean), 1, 0)
theorem vX10_canBeSome : zm_yv yX10_canBeSome kX10_canBeSome 0 := ⟨⟨by decide, by decide, by decide +kernel⟩, zm_in (by decide +kernel) (by decide +kernel), zm_in (by decide +kernel) (by decide +kernel), by decide, zm_in (by decide +kernel) (by decide +kernel), zm_in (by decide +kernel) (by decide +kernel)⟩
abbrev kX10_canBe : zK := (cX10_canBe, 4, (some .boolean), 1, 0)
theorem vX10_canBe : zm_yv yX10_canBe kX10_canBe 1 := ⟨⟨by decide, by decide, by decide +kernel⟩, zm_in (by decide +kernel) (by decide +kernel), zm_in (by decide +kernel) (by decide +kernel), by decide, zm_in (by decide +kernel) (by decide +kernel), zm_in (by decide +kernel) (by decide +kernel)⟩
abbrev kJ9_floorMod_7cf53 : zK := (cJ9_floorMod_7cf53, 3, (some .int), 1, 0)
theorem vJ9_floorMod_7cf53 : zm_ys yJ9_floorMod_7cf53 kJ9_floorMod_7cf53 2 := ⟨⟨by decide, by decide, by decide +kernel⟩, zm_in (by decide +kernel) (by decide +kernel), zm_in (by decide +kernel) (by decide +kernel), by decide, zm_in (by decide +kernel) (by decide +kernel)⟩
abbrev kJ9_max_7cf53 : zK := (cJ9_max_7cf53, 2, (some .int), 1, 0)
theorem vJ9_max_7cf53 : zm_ys yJ9_max_7cf53 kJ9_max_7cf53 2 := ⟨⟨by decide, by decide, by decide +kernel⟩, zm_in (by decide +kernel) (by decide +kernel), zm_in (by decide +kernel) (by decide +kernel), by decide, zm_in (by decide +kernel) (by decide +kernel)⟩
end
section
theorem lX11_3 : Cond.methodLink RX11 3 Lib.objectInit ∈ zm_g := zm_in (by decide +kernel) (by decide +kernel)
theorem nX11_9 : Cond.classLink RX11 9 RX9 ∈ zm_g := zm_in (by decide +kernel) (by decide +kernel)
theorem lX11_11 : Cond.methodLinkNest RX11 11 yX9_init RX11 ∈ zm_nest := by decide +kernel
theorem fX11_12 : zm_fl RX11 12 11 0 := ⟨by decide, by decide, zm_in (by decide +kernel) (by decide +kernel)⟩
theorem nX11_16 : Cond.classLink RX11 16 RX0 ∈ zm_g := zm_in (by decide +kernel) (by decide +kernel)
theorem fX11_18 : zm_fl RX11 18 11 1 := ⟨by decide, by decide, zm_in (by decide +kernel) (by decide +kernel)⟩
theorem lX11_22 : Cond.methodLink RX11 22 yX0_init ∈ zm_g := zm_in (by decide +kernel) (by decide +kernel)
theorem nX11_25 : Cond.classLink RX11 25 RX10 ∈ zm_g := zm_in (by decide +kernel) (by decide +kernel)
theorem lX11_27 : Cond.methodLinkNest RX11 27 yX10_init RX11 ∈ zm_nest := by decide +kernel
theorem fX11_28 : zm_fl RX11 28 11 2 := ⟨by decide, by decide, zm_in (by decide +kernel) (by decide +kernel)⟩
theorem nX11_32 : Cond.classLink RX11 32 RX8 ∈ zm_g := zm_in (by decide +kernel) (by decide +kernel)
theorem lX11_34 : Cond.methodLink RX11 34 yX8_init ∈ zm_g := zm_in (by decide +kernel) (by decide +kernel)
theorem fX11_35 : zm_fl RX11 35 11 3 := ⟨by decide, by decide, zm_in (by decide +kernel) (by decide +kernel)⟩
theorem nX11_39 : Cond.classLink RX11 39 RX7 ∈ zm_g := zm_in (by decide +kernel) (by decide +kernel)
theorem lX11_41 : Cond.methodLinkNest RX11 41 yX7_init RX11 ∈ zm_nest := by decide +kernel
theorem fX11_42 : zm_fl RX11 42 11 4 := ⟨by decide, by decide, zm_in (by decide +kernel) (by decide +kernel)⟩
theorem nX11_46 : Cond.classLink RX11 46 RX6 ∈ zm_g := zm_in (by decide +kernel) (by decide +kernel)
theorem lX11_48 : Cond.methodLinkNest RX11 48 yX6_init RX11 ∈ zm_nest := by decide +kernel
theorem fX11_49 : zm_fl RX11 49 11 5 := ⟨by decide, by decide, zm_in (by decide +kernel) (by decide +kernel)⟩
theorem nX11_53 : Cond.classLink RX11 53 RX2 ∈ zm_g := zm_in (by decide +kernel) (by decide +kernel)
theorem lX11_55 : Cond.methodLinkNest RX11 55 yX2_init RX11 ∈ zm_nest := by decide +kernel
theorem fX11_56 : zm_fl RX11 56 11 6 := ⟨by decide, by decide, zm_in (by decide +kernel) (by decide +kernel)⟩
theorem fX11_60 : zm_fl RX11 60 9 1 := ⟨by decide, by decide, zm_in (by decide +kernel) (by decide +kernel)⟩
theorem lX11_64 : Cond.methodLink RX11 64 yX9_append ∈ zm_g := zm_in (by decide +kernel) (by decide +kernel)
theorem lX11_67 : Cond.methodLink RX11 67 yX0_cellsTold ∈ zm_g := zm_in (by decide +kernel) (by decide +kernel)
theorem fX11_71 : zm_fl RX11 71 0 13 := ⟨by decide, by decide, zm_in (by decide +kernel) (by decide +kernel)⟩
theorem lX11_75 : Cond.methodLink RX11 75 yX8_remove ∈ zm_g := zm_in (by decide +kernel) (by decide +kernel)
theorem lX11_79 : Cond.methodLink RX11 79 yX0_become ∈ zm_g := zm_in (by decide +kernel) (by decide +kernel)
theorem lX11_83 : Cond.methodLink RX11 83 yX11_bitOf ∈ zm_g := zm_in (by decide +kernel) (by decide +kernel)
theorem fX11_87 : zm_fl RX11 87 0 1 := ⟨by decide, by decide, zm_in (by decide +kernel) (by decide +kernel)⟩
theorem fX11_91 : zm_fl RX11 91 0 9 := ⟨by decide, by decide, zm_in (by decide +kernel) (by decide +kernel)⟩
theorem fX11_95 : zm_fl RX11 95 0 10 := ⟨by decide, by decide, zm_in (by decide +kernel) (by decide +kernel)⟩
theorem fX11_98 : zm_fl RX11 98 1 0 := ⟨by decide, by decide, zm_in (by decide +kernel) (by decide +kernel)⟩
theorem lX11_103 : Cond.methodLink RX11 103 yX9_isLetters ∈ zm_g := zm_in (by decide +kernel) (by decide +kernel)
theorem fX11_107 : zm_fl RX11 107 10 0 := ⟨by decide, by decide, zm_in (by decide +kernel) (by decide +kernel)⟩
theorem lX11_110 : Cond.methodLink RX11 110 yX10_append ∈ zm_g := zm_in (by decide +kernel) (by decide +kernel)
theorem lX11_112 : Cond.methodLink RX11 112 yX8_hasRoom ∈ zm_g := zm_in (by decide +kernel) (by decide +kernel)
theorem lX11_116 : Cond.methodLink RX11 116 yX8_fibreWorth ∈ zm_g := zm_in (by decide +kernel) (by decide +kernel)
theorem lX11_120 : Cond.methodLink RX11 120 yX8_allRunsCan ∈ zm_g := zm_in (by decide +kernel) (by decide +kernel)
theorem lX11_124 : Cond.methodLink RX11 124 yX8_runsCanWith ∈ zm_g := zm_in (by decide +kernel) (by decide +kernel)
theorem lX11_128 : Cond.methodLink RX11 128 yX8_put ∈ zm_g := zm_in (by decide +kernel) (by decide +kernel)
theorem fX11_132 : zm_fl RX11 132 0 14 := ⟨by decide, by decide, zm_in (by decide +kernel) (by decide +kernel)⟩
theorem fX11_135 : zm_fl RX11 135 0 15 := ⟨by decide, by decide, zm_in (by decide +kernel) (by decide +kernel)⟩
theorem lX11_138 : Cond.methodLink RX11 138 yX8_isInside ∈ zm_g := zm_in (by decide +kernel) (by decide +kernel)
theorem lX11_142 : Cond.methodLink RX11 142 yX8_signAt ∈ zm_g := zm_in (by decide +kernel) (by decide +kernel)
theorem lX11_146 : Cond.methodLink RX11 146 yX8_ownerAt ∈ zm_g := zm_in (by decide +kernel) (by decide +kernel)
theorem lX11_149 : Cond.methodLink RX11 149 yX11_isText ∈ zm_g := zm_in (by decide +kernel) (by decide +kernel)
theorem lX11_152 : Cond.methodLink RX11 152 yX8_followRun ∈ zm_g := zm_in (by decide +kernel) (by decide +kernel)
theorem lX11_156 : Cond.methodLink RX11 156 yX10_canBe ∈ zm_g := zm_in (by decide +kernel) (by decide +kernel)
theorem lX11_159 : Cond.methodLink RX11 159 yX8_wholeWorth ∈ zm_g := zm_in (by decide +kernel) (by decide +kernel)
theorem lX11_163 : Cond.methodLink RX11 163 yX11_looseBit ∈ zm_g := zm_in (by decide +kernel) (by decide +kernel)
theorem lX11_166 : Cond.methodLink RX11 166 yX7_joinAlone ∈ zm_g := zm_in (by decide +kernel) (by decide +kernel)
theorem fX11_170 : zm_fl RX11 170 0 0 := ⟨by decide, by decide, zm_in (by decide +kernel) (by decide +kernel)⟩
theorem lX11_173 : Cond.methodLink RX11 173 yX7_joinBoth ∈ zm_g := zm_in (by decide +kernel) (by decide +kernel)
theorem lX11_177 : Cond.methodLink RX11 177 yX7_countAlone ∈ zm_g := zm_in (by decide +kernel) (by decide +kernel)
theorem lX11_181 : Cond.methodLink RX11 181 yX6_bore ∈ zm_g := zm_in (by decide +kernel) (by decide +kernel)
theorem fX11_185 : zm_fl RX11 185 6 1 := ⟨by decide, by decide, zm_in (by decide +kernel) (by decide +kernel)⟩
theorem lX11_186 : Cond.methodLink RX11 186 yX0_addHole ∈ zm_g := zm_in (by decide +kernel) (by decide +kernel)
theorem fX11_190 : zm_fl RX11 190 0 12 := ⟨by decide, by decide, zm_in (by decide +kernel) (by decide +kernel)⟩
theorem lX11_193 : Cond.methodLink RX11 193 yX6_countPlaces ∈ zm_g := zm_in (by decide +kernel) (by decide +kernel)
theorem lX11_197 : Cond.methodLink RX11 197 yX6_placeOf ∈ zm_g := zm_in (by decide +kernel) (by decide +kernel)
theorem lX11_201 : Cond.methodLink RX11 201 yX2_become ∈ zm_g := zm_in (by decide +kernel) (by decide +kernel)
theorem fX11_202 : zm_fl RX11 202 2 1 := ⟨by decide, by decide, zm_in (by decide +kernel) (by decide +kernel)⟩
theorem lX11_203 : Cond.methodLink RX11 203 yX11_isWidth ∈ zm_g := zm_in (by decide +kernel) (by decide +kernel)
theorem lX11_206 : Cond.methodLink RX11 206 yX2_countTimes ∈ zm_g := zm_in (by decide +kernel) (by decide +kernel)
theorem lX11_209 : Cond.methodLink RX11 209 yX2_timeOf ∈ zm_g := zm_in (by decide +kernel) (by decide +kernel)
theorem fX11_212 : zm_fl RX11 212 0 4 := ⟨by decide, by decide, zm_in (by decide +kernel) (by decide +kernel)⟩
theorem fX11_215 : zm_fl RX11 215 8 4 := ⟨by decide, by decide, zm_in (by decide +kernel) (by decide +kernel)⟩
theorem lX12_1 : Cond.methodLink RX12 1 Lib.objectInit ∈ zm_g := zm_in (by decide +kernel) (by decide +kernel)
theorem fX12_7 : zm_fl RX12 7 12 0 := ⟨by decide, by decide, zm_in (by decide +kernel) (by decide +kernel)⟩
theorem fX12_13 : zm_fl RX12 13 12 2 := ⟨by decide, by decide, zm_in (by decide +kernel) (by decide +kernel)⟩
theorem fX12_17 : zm_fl RX12 17 12 3 := ⟨by decide, by decide, zm_in (by decide +kernel) (by decide +kernel)⟩
theorem fX12_20 : zm_fl RX12 20 12 4 := ⟨by decide, by decide, zm_in (by decide +kernel) (by decide +kernel)⟩
theorem fX12_23 : zm_fl RX12 23 12 5 := ⟨by decide, by decide, zm_in (by decide +kernel) (by decide +kernel)⟩
theorem fX12_26 : zm_fl RX12 26 12 6 := ⟨by decide, by decide, zm_in (by decide +kernel) (by decide +kernel)⟩
theorem fX12_29 : zm_fl RX12 29 12 7 := ⟨by decide, by decide, zm_in (by decide +kernel) (by decide +kernel)⟩
theorem fX12_32 : zm_fl RX12 32 12 8 := ⟨by decide, by decide, zm_in (by decide +kernel) (by decide +kernel)⟩
theorem fX12_35 : zm_fl RX12 35 12 9 := ⟨by decide, by decide, zm_in (by decide +kernel) (by decide +kernel)⟩
theorem fX12_38 : zm_fl RX12 38 12 10 := ⟨by decide, by decide, zm_in (by decide +kernel) (by decide +kernel)⟩
theorem fX12_41 : zm_fl RX12 41 12 11 := ⟨by decide, by decide, zm_in (by decide +kernel) (by decide +kernel)⟩
theorem fX12_44 : zm_fl RX12 44 12 13 := ⟨by decide, by decide, zm_in (by decide +kernel) (by decide +kernel)⟩
theorem fX12_47 : zm_fl RX12 47 12 14 := ⟨by decide, by decide, zm_in (by decide +kernel) (by decide +kernel)⟩
theorem fX12_50 : zm_fl RX12 50 12 15 := ⟨by decide, by decide, zm_in (by decide +kernel) (by decide +kernel)⟩
theorem fX12_53 : zm_fl RX12 53 12 16 := ⟨by decide, by decide, zm_in (by decide +kernel) (by decide +kernel)⟩
theorem fX12_56 : zm_fl RX12 56 12 24 := ⟨by decide, by decide, zm_in (by decide +kernel) (by decide +kernel)⟩
theorem fX12_59 : zm_fl RX12 59 12 26 := ⟨by decide, by decide, zm_in (by decide +kernel) (by decide +kernel)⟩
theorem fX12_62 : zm_fl RX12 62 12 29 := ⟨by decide, by decide, zm_in (by decide +kernel) (by decide +kernel)⟩
theorem fX12_65 : zm_fl RX12 65 12 1 := ⟨by decide, by decide, zm_in (by decide +kernel) (by decide +kernel)⟩
theorem lX12_69 : Cond.methodLink RX12 69 yX12_isIn ∈ zm_g := zm_in (by decide +kernel) (by decide +kernel)
theorem lX12_73 : Cond.methodLink RX12 73 yX12_isLetter ∈ zm_g := zm_in (by decide +kernel) (by decide +kernel)
theorem lX12_77 : Cond.methodLink RX12 77 yX12_reads ∈ zm_g := zm_in (by decide +kernel) (by decide +kernel)
theorem lX12_81 : Cond.methodLink RX12 81 yX12_isBit ∈ zm_g := zm_in (by decide +kernel) (by decide +kernel)
theorem fX12_83 : zm_fl RX12 83 12 12 := ⟨by decide, by decide, zm_in (by decide +kernel) (by decide +kernel)⟩
theorem lX12_86 : Cond.methodLink RX12 86 yX12_at ∈ zm_g := zm_in (by decide +kernel) (by decide +kernel)
theorem lX12_90 : Cond.methodLink RX12 90 yX12_lays ∈ zm_g := zm_in (by decide +kernel) (by decide +kernel)
theorem lX12_93 : Cond.methodLink RX12 93 yX12_hasInRow ∈ zm_g := zm_in (by decide +kernel) (by decide +kernel)
theorem lX12_97 : Cond.methodLink RX12 97 yX12_hasInColumn ∈ zm_g := zm_in (by decide +kernel) (by decide +kernel)
theorem lX12_100 : Cond.methodLink RX12 100 yX12_acrossOf ∈ zm_g := zm_in (by decide +kernel) (by decide +kernel)
theorem lX12_103 : Cond.methodLink RX12 103 yX12_downOf ∈ zm_g := zm_in (by decide +kernel) (by decide +kernel)
theorem lX12_106 : Cond.methodLink RX12 106 yX12_isInk ∈ zm_g := zm_in (by decide +kernel) (by decide +kernel)
theorem fX12_109 : zm_fl RX12 109 12 19 := ⟨by decide, by decide, zm_in (by decide +kernel) (by decide +kernel)⟩
theorem fX12_113 : zm_fl RX12 113 12 20 := ⟨by decide, by decide, zm_in (by decide +kernel) (by decide +kernel)⟩
theorem fX12_116 : zm_fl RX12 116 12 17 := ⟨by decide, by decide, zm_in (by decide +kernel) (by decide +kernel)⟩
theorem fX12_119 : zm_fl RX12 119 12 18 := ⟨by decide, by decide, zm_in (by decide +kernel) (by decide +kernel)⟩
theorem lX12_122 : Cond.methodLink RX12 122 yX12_isFrom ∈ zm_g := zm_in (by decide +kernel) (by decide +kernel)
theorem lX12_125 : Cond.methodLink RX12 125 yX12_canBe ∈ zm_g := zm_in (by decide +kernel) (by decide +kernel)
theorem lX12_128 : Cond.methodLink RX12 128 yX12_runAt ∈ zm_g := zm_in (by decide +kernel) (by decide +kernel)
theorem lX12_132 : Cond.methodLink RX12 132 yX12_canAny ∈ zm_g := zm_in (by decide +kernel) (by decide +kernel)
theorem lX12_136 : Cond.methodLink RX12 136 yX12_laysAll ∈ zm_g := zm_in (by decide +kernel) (by decide +kernel)
theorem lX12_139 : Cond.methodLink RX12 139 yX12_quarrel ∈ zm_g := zm_in (by decide +kernel) (by decide +kernel)
theorem lX12_142 : Cond.methodLink RX12 142 yX12_runsCan ∈ zm_g := zm_in (by decide +kernel) (by decide +kernel)
theorem lX12_145 : Cond.methodLink RX12 145 yX12_puts ∈ zm_g := zm_in (by decide +kernel) (by decide +kernel)
theorem lX12_149 : Cond.methodLink RX12 149 yX12_mayLie ∈ zm_g := zm_in (by decide +kernel) (by decide +kernel)
theorem lX12_152 : Cond.methodLink RX12 152 yX12_isPlace ∈ zm_g := zm_in (by decide +kernel) (by decide +kernel)
theorem lX12_155 : Cond.methodLink RX12 155 yX12_hasRun ∈ zm_g := zm_in (by decide +kernel) (by decide +kernel)
theorem lX12_158 : Cond.methodLink RX12 158 yX12_sides ∈ zm_g := zm_in (by decide +kernel) (by decide +kernel)
theorem lX12_162 : Cond.methodLink RX12 162 yX12_worthOf ∈ zm_g := zm_in (by decide +kernel) (by decide +kernel)
theorem lX12_165 : Cond.methodLink RX12 165 yX12_worthNow ∈ zm_g := zm_in (by decide +kernel) (by decide +kernel)
theorem lX12_169 : Cond.methodLink RX12 169 yX12_rowOf ∈ zm_g := zm_in (by decide +kernel) (by decide +kernel)
theorem lX12_172 : Cond.methodLink RX12 172 yX12_columnOf ∈ zm_g := zm_in (by decide +kernel) (by decide +kernel)
theorem fX12_175 : zm_fl RX12 175 12 21 := ⟨by decide, by decide, zm_in (by decide +kernel) (by decide +kernel)⟩
theorem fX12_178 : zm_fl RX12 178 12 22 := ⟨by decide, by decide, zm_in (by decide +kernel) (by decide +kernel)⟩
theorem fX12_181 : zm_fl RX12 181 12 23 := ⟨by decide, by decide, zm_in (by decide +kernel) (by decide +kernel)⟩
theorem lX12_184 : Cond.methodLink RX12 184 yX12_notesEarly ∈ zm_g := zm_in (by decide +kernel) (by decide +kernel)
theorem lX12_187 : Cond.methodLink RX12 187 yX12_isNext ∈ zm_g := zm_in (by decide +kernel) (by decide +kernel)
theorem lX12_190 : Cond.methodLink RX12 190 yX12_fits ∈ zm_g := zm_in (by decide +kernel) (by decide +kernel)
theorem lX12_193 : Cond.methodLink RX12 193 yX12_seconds ∈ zm_g := zm_in (by decide +kernel) (by decide +kernel)
theorem lX12_197 : Cond.methodLink RX12 197 yX12_holds ∈ zm_g := zm_in (by decide +kernel) (by decide +kernel)
theorem lX12_200 : Cond.methodLink RX12 200 yX12_mayTouch ∈ zm_g := zm_in (by decide +kernel) (by decide +kernel)
theorem lX12_204 : Cond.methodLink RX12 204 yX12_mayJoin ∈ zm_g := zm_in (by decide +kernel) (by decide +kernel)
theorem lX12_207 : Cond.methodLink RX12 207 yX12_anyLies ∈ zm_g := zm_in (by decide +kernel) (by decide +kernel)
theorem lX12_210 : Cond.methodLink RX12 210 yX12_tries ∈ zm_g := zm_in (by decide +kernel) (by decide +kernel)
theorem fX12_213 : zm_fl RX12 213 12 25 := ⟨by decide, by decide, zm_in (by decide +kernel) (by decide +kernel)⟩
theorem fX12_216 : zm_fl RX12 216 12 27 := ⟨by decide, by decide, zm_in (by decide +kernel) (by decide +kernel)⟩
theorem lX12_219 : Cond.methodLink RX12 219 yX12_stoodAt ∈ zm_g := zm_in (by decide +kernel) (by decide +kernel)
theorem lX12_222 : Cond.methodLink RX12 222 yX12_mayStand ∈ zm_g := zm_in (by decide +kernel) (by decide +kernel)
theorem lX12_225 : Cond.methodLink RX12 225 yX12_stoods ∈ zm_g := zm_in (by decide +kernel) (by decide +kernel)
theorem fX12_228 : zm_fl RX12 228 12 28 := ⟨by decide, by decide, zm_in (by decide +kernel) (by decide +kernel)⟩
theorem lX12_231 : Cond.methodLink RX12 231 yX12_floor ∈ zm_g := zm_in (by decide +kernel) (by decide +kernel)
theorem lX12_234 : Cond.methodLink RX12 234 yX12_hasInk ∈ zm_g := zm_in (by decide +kernel) (by decide +kernel)
theorem lX12_237 : Cond.methodLink RX12 237 yX12_standsAt ∈ zm_g := zm_in (by decide +kernel) (by decide +kernel)
theorem lX12_240 : Cond.methodLink RX12 240 yX12_standsBy ∈ zm_g := zm_in (by decide +kernel) (by decide +kernel)
theorem lX0_3 : Cond.methodLink RX0 3 Lib.objectInit ∈ zm_g := zm_in (by decide +kernel) (by decide +kernel)
theorem fX0_9 : zm_fl RX0 9 0 1 := ⟨by decide, by decide, zm_in (by decide +kernel) (by decide +kernel)⟩
theorem fX0_15 : zm_fl RX0 15 0 2 := ⟨by decide, by decide, zm_in (by decide +kernel) (by decide +kernel)⟩
theorem fX0_18 : zm_fl RX0 18 0 3 := ⟨by decide, by decide, zm_in (by decide +kernel) (by decide +kernel)⟩
theorem fX0_21 : zm_fl RX0 21 0 5 := ⟨by decide, by decide, zm_in (by decide +kernel) (by decide +kernel)⟩
theorem fX0_24 : zm_fl RX0 24 0 6 := ⟨by decide, by decide, zm_in (by decide +kernel) (by decide +kernel)⟩
theorem nX0_27 : Cond.classLink RX0 27 RX1 ∈ zm_g := zm_in (by decide +kernel) (by decide +kernel)
theorem lX0_29 : Cond.methodLink RX0 29 yX1_init ∈ zm_g := zm_in (by decide +kernel) (by decide +kernel)
theorem fX0_32 : zm_fl RX0 32 0 9 := ⟨by decide, by decide, zm_in (by decide +kernel) (by decide +kernel)⟩
theorem fX0_36 : zm_fl RX0 36 0 10 := ⟨by decide, by decide, zm_in (by decide +kernel) (by decide +kernel)⟩
theorem fX0_39 : zm_fl RX0 39 0 11 := ⟨by decide, by decide, zm_in (by decide +kernel) (by decide +kernel)⟩
theorem fX0_42 : zm_fl RX0 42 0 0 := ⟨by decide, by decide, zm_in (by decide +kernel) (by decide +kernel)⟩
theorem fX0_46 : zm_fl RX0 46 9 1 := ⟨by decide, by decide, zm_in (by decide +kernel) (by decide +kernel)⟩
theorem fX0_51 : zm_fl RX0 51 9 0 := ⟨by decide, by decide, zm_in (by decide +kernel) (by decide +kernel)⟩
theorem lX0_54 : Cond.methodLink RX0 54 yX0_isSign ∈ zm_g := zm_in (by decide +kernel) (by decide +kernel)
theorem lX0_58 : Cond.methodLinkNest RX0 58 yX11_isText RX11 ∈ zm_nest := by decide +kernel
theorem lX0_61 : Cond.methodLink RX0 61 yX0_clear ∈ zm_g := zm_in (by decide +kernel) (by decide +kernel)
theorem lX0_64 : Cond.methodLink RX0 64 yX0_addCell ∈ zm_g := zm_in (by decide +kernel) (by decide +kernel)
theorem fX0_68 : zm_fl RX0 68 0 4 := ⟨by decide, by decide, zm_in (by decide +kernel) (by decide +kernel)⟩
theorem fX0_71 : zm_fl RX0 71 0 7 := ⟨by decide, by decide, zm_in (by decide +kernel) (by decide +kernel)⟩
theorem fX0_74 : zm_fl RX0 74 0 8 := ⟨by decide, by decide, zm_in (by decide +kernel) (by decide +kernel)⟩
theorem lX0_77 : Cond.methodLink RX0 77 yX1_clear ∈ zm_g := zm_in (by decide +kernel) (by decide +kernel)
theorem fX0_78 : zm_fl RX0 78 0 12 := ⟨by decide, by decide, zm_in (by decide +kernel) (by decide +kernel)⟩
theorem lX0_81 : Cond.methodLink RX0 81 yJ9_max_7cf53 ∈ zm_g := zm_in (by decide +kernel) (by decide +kernel)
theorem fX0_87 : zm_fl RX0 87 1 1 := ⟨by decide, by decide, zm_in (by decide +kernel) (by decide +kernel)⟩
theorem lX1_3 : Cond.methodLink RX1 3 Lib.objectInit ∈ zm_g := zm_in (by decide +kernel) (by decide +kernel)
theorem fX1_9 : zm_fl RX1 9 1 0 := ⟨by decide, by decide, zm_in (by decide +kernel) (by decide +kernel)⟩
theorem fX1_15 : zm_fl RX1 15 1 1 := ⟨by decide, by decide, zm_in (by decide +kernel) (by decide +kernel)⟩
theorem lX1_19 : Cond.methodLink RX1 19 yX1_told ∈ zm_g := zm_in (by decide +kernel) (by decide +kernel)
theorem lX2_3 : Cond.methodLink RX2 3 Lib.objectInit ∈ zm_g := zm_in (by decide +kernel) (by decide +kernel)
theorem fX2_9 : zm_fl RX2 9 2 0 := ⟨by decide, by decide, zm_in (by decide +kernel) (by decide +kernel)⟩
theorem fX2_15 : zm_fl RX2 15 9 0 := ⟨by decide, by decide, zm_in (by decide +kernel) (by decide +kernel)⟩
theorem fX2_20 : zm_fl RX2 20 9 1 := ⟨by decide, by decide, zm_in (by decide +kernel) (by decide +kernel)⟩
theorem lX2_24 : Cond.methodLink RX2 24 arraycopyName ∈ zm_g := zm_in (by decide +kernel) (by decide +kernel)
theorem fX2_30 : zm_fl RX2 30 2 1 := ⟨by decide, by decide, zm_in (by decide +kernel) (by decide +kernel)⟩
theorem lX2_31 : Cond.methodLink RX2 31 yX2_firstShift ∈ zm_g := zm_in (by decide +kernel) (by decide +kernel)
theorem lX2_35 : Cond.methodLink RX2 35 yX2_standsAt ∈ zm_g := zm_in (by decide +kernel) (by decide +kernel)
theorem fX2_39 : zm_fl RX2 39 0 7 := ⟨by decide, by decide, zm_in (by decide +kernel) (by decide +kernel)⟩
theorem fX2_44 : zm_fl RX2 44 0 2 := ⟨by decide, by decide, zm_in (by decide +kernel) (by decide +kernel)⟩
theorem fX2_47 : zm_fl RX2 47 0 3 := ⟨by decide, by decide, zm_in (by decide +kernel) (by decide +kernel)⟩
theorem lX2_50 : Cond.methodLink RX2 50 yJ9_floorMod_7cf53 ∈ zm_g := zm_in (by decide +kernel) (by decide +kernel)
theorem fX2_56 : zm_fl RX2 56 0 8 := ⟨by decide, by decide, zm_in (by decide +kernel) (by decide +kernel)⟩
theorem fX2_59 : zm_fl RX2 59 0 4 := ⟨by decide, by decide, zm_in (by decide +kernel) (by decide +kernel)⟩
theorem fX2_62 : zm_fl RX2 62 0 1 := ⟨by decide, by decide, zm_in (by decide +kernel) (by decide +kernel)⟩
theorem lX2_65 : Cond.methodLinkNest RX2 65 yX11_isText RX11 ∈ zm_nest := by decide +kernel
theorem lX2_69 : Cond.methodLink RX2 69 yX2_agrees ∈ zm_g := zm_in (by decide +kernel) (by decide +kernel)
theorem lX3_3 : Cond.methodLink RX3 3 Lib.objectInit ∈ zm_g := zm_in (by decide +kernel) (by decide +kernel)
theorem fX3_9 : zm_fl RX3 9 3 0 := ⟨by decide, by decide, zm_in (by decide +kernel) (by decide +kernel)⟩
theorem fX3_15 : zm_fl RX3 15 3 1 := ⟨by decide, by decide, zm_in (by decide +kernel) (by decide +kernel)⟩
theorem fX3_18 : zm_fl RX3 18 1 0 := ⟨by decide, by decide, zm_in (by decide +kernel) (by decide +kernel)⟩
theorem lX3_21 : Cond.methodLink RX3 21 yX1_told ∈ zm_g := zm_in (by decide +kernel) (by decide +kernel)
theorem lX3_25 : Cond.methodLink RX3 25 yX3_has ∈ zm_g := zm_in (by decide +kernel) (by decide +kernel)
theorem lX4_3 : Cond.methodLink RX4 3 Lib.objectInit ∈ zm_g := zm_in (by decide +kernel) (by decide +kernel)
theorem fX4_11 : zm_fl RX4 11 4 0 := ⟨by decide, by decide, zm_in (by decide +kernel) (by decide +kernel)⟩
theorem fX4_15 : zm_fl RX4 15 4 1 := ⟨by decide, by decide, zm_in (by decide +kernel) (by decide +kernel)⟩
theorem fX4_18 : zm_fl RX4 18 4 2 := ⟨by decide, by decide, zm_in (by decide +kernel) (by decide +kernel)⟩
theorem fX4_21 : zm_fl RX4 21 0 9 := ⟨by decide, by decide, zm_in (by decide +kernel) (by decide +kernel)⟩
theorem lX4_27 : Cond.methodLink RX4 27 yX1_worthBeside ∈ zm_g := zm_in (by decide +kernel) (by decide +kernel)
theorem lX4_33 : Cond.methodLink RX4 33 yX4_countSides ∈ zm_g := zm_in (by decide +kernel) (by decide +kernel)
theorem fX4_37 : zm_fl RX4 37 0 10 := ⟨by decide, by decide, zm_in (by decide +kernel) (by decide +kernel)⟩
theorem fX4_40 : zm_fl RX4 40 0 4 := ⟨by decide, by decide, zm_in (by decide +kernel) (by decide +kernel)⟩
theorem fX4_44 : zm_fl RX4 44 0 2 := ⟨by decide, by decide, zm_in (by decide +kernel) (by decide +kernel)⟩
theorem fX4_47 : zm_fl RX4 47 0 3 := ⟨by decide, by decide, zm_in (by decide +kernel) (by decide +kernel)⟩
theorem lX4_50 : Cond.methodLink RX4 50 yX0_hasCell ∈ zm_g := zm_in (by decide +kernel) (by decide +kernel)
theorem lX4_54 : Cond.methodLink RX4 54 yX4_one ∈ zm_g := zm_in (by decide +kernel) (by decide +kernel)
theorem lX4_58 : Cond.methodLink RX4 58 yX4_rowsMeet ∈ zm_g := zm_in (by decide +kernel) (by decide +kernel)
theorem lX4_62 : Cond.methodLink RX4 62 yX4_columnsMeet ∈ zm_g := zm_in (by decide +kernel) (by decide +kernel)
theorem lX5_3 : Cond.methodLink RX5 3 Lib.objectInit ∈ zm_g := zm_in (by decide +kernel) (by decide +kernel)
theorem fX5_9 : zm_fl RX5 9 5 0 := ⟨by decide, by decide, zm_in (by decide +kernel) (by decide +kernel)⟩
theorem fX5_15 : zm_fl RX5 15 5 1 := ⟨by decide, by decide, zm_in (by decide +kernel) (by decide +kernel)⟩
theorem fX5_18 : zm_fl RX5 18 5 2 := ⟨by decide, by decide, zm_in (by decide +kernel) (by decide +kernel)⟩
theorem fX5_21 : zm_fl RX5 21 5 3 := ⟨by decide, by decide, zm_in (by decide +kernel) (by decide +kernel)⟩
theorem fX5_25 : zm_fl RX5 25 5 4 := ⟨by decide, by decide, zm_in (by decide +kernel) (by decide +kernel)⟩
theorem lX5_29 : Cond.methodLink RX5 29 yX8_allRunsCan ∈ zm_g := zm_in (by decide +kernel) (by decide +kernel)
theorem lX5_35 : Cond.methodLink RX5 35 yX8_hasRoom ∈ zm_g := zm_in (by decide +kernel) (by decide +kernel)
theorem lX5_39 : Cond.methodLink RX5 39 yX8_sidesOf ∈ zm_g := zm_in (by decide +kernel) (by decide +kernel)
theorem lX5_43 : Cond.methodLink RX5 43 yX8_fibreWorth ∈ zm_g := zm_in (by decide +kernel) (by decide +kernel)
theorem lX5_46 : Cond.methodLink RX5 46 yX8_runsCanWith ∈ zm_g := zm_in (by decide +kernel) (by decide +kernel)
theorem lX5_50 : Cond.methodLink RX5 50 yX5_add ∈ zm_g := zm_in (by decide +kernel) (by decide +kernel)
theorem lX6_3 : Cond.methodLink RX6 3 Lib.objectInit ∈ zm_g := zm_in (by decide +kernel) (by decide +kernel)
theorem fX6_9 : zm_fl RX6 9 6 0 := ⟨by decide, by decide, zm_in (by decide +kernel) (by decide +kernel)⟩
theorem fX6_15 : zm_fl RX6 15 6 1 := ⟨by decide, by decide, zm_in (by decide +kernel) (by decide +kernel)⟩
theorem fX6_19 : zm_fl RX6 19 0 11 := ⟨by decide, by decide, zm_in (by decide +kernel) (by decide +kernel)⟩
theorem fX6_24 : zm_fl RX6 24 0 12 := ⟨by decide, by decide, zm_in (by decide +kernel) (by decide +kernel)⟩
theorem lX6_27 : Cond.methodLink RX6 27 yX6_stoodBy ∈ zm_g := zm_in (by decide +kernel) (by decide +kernel)
theorem lX7_3 : Cond.methodLink RX7 3 Lib.objectInit ∈ zm_g := zm_in (by decide +kernel) (by decide +kernel)
theorem nX7_9 : Cond.classLink RX7 9 RX5 ∈ zm_g := zm_in (by decide +kernel) (by decide +kernel)
theorem lX7_11 : Cond.methodLinkNest RX7 11 yX5_init RX11 ∈ zm_nest := by decide +kernel
theorem fX7_12 : zm_fl RX7 12 7 0 := ⟨by decide, by decide, zm_in (by decide +kernel) (by decide +kernel)⟩
theorem fX7_18 : zm_fl RX7 18 7 1 := ⟨by decide, by decide, zm_in (by decide +kernel) (by decide +kernel)⟩
theorem fX7_21 : zm_fl RX7 21 7 2 := ⟨by decide, by decide, zm_in (by decide +kernel) (by decide +kernel)⟩
theorem nX7_25 : Cond.classLink RX7 25 RX4 ∈ zm_g := zm_in (by decide +kernel) (by decide +kernel)
theorem lX7_27 : Cond.methodLinkNest RX7 27 yX4_init RX11 ∈ zm_nest := by decide +kernel
theorem fX7_28 : zm_fl RX7 28 7 3 := ⟨by decide, by decide, zm_in (by decide +kernel) (by decide +kernel)⟩
theorem lX7_32 : Cond.methodLink RX7 32 yX5_collect ∈ zm_g := zm_in (by decide +kernel) (by decide +kernel)
theorem fX7_36 : zm_fl RX7 36 5 4 := ⟨by decide, by decide, zm_in (by decide +kernel) (by decide +kernel)⟩
theorem lX7_40 : Cond.methodLink RX7 40 yX5_best ∈ zm_g := zm_in (by decide +kernel) (by decide +kernel)
theorem fX7_44 : zm_fl RX7 44 5 0 := ⟨by decide, by decide, zm_in (by decide +kernel) (by decide +kernel)⟩
theorem fX7_47 : zm_fl RX7 47 5 1 := ⟨by decide, by decide, zm_in (by decide +kernel) (by decide +kernel)⟩
theorem lX7_50 : Cond.methodLink RX7 50 yX8_put ∈ zm_g := zm_in (by decide +kernel) (by decide +kernel)
theorem lX7_56 : Cond.methodLink RX7 56 yX4_compare ∈ zm_g := zm_in (by decide +kernel) (by decide +kernel)
theorem lX7_60 : Cond.methodLink RX7 60 yX5_listTouching ∈ zm_g := zm_in (by decide +kernel) (by decide +kernel)
theorem fX7_64 : zm_fl RX7 64 7 4 := ⟨by decide, by decide, zm_in (by decide +kernel) (by decide +kernel)⟩
theorem fX7_67 : zm_fl RX7 67 5 3 := ⟨by decide, by decide, zm_in (by decide +kernel) (by decide +kernel)⟩
theorem lX7_71 : Cond.methodLink RX7 71 yX7_weigh ∈ zm_g := zm_in (by decide +kernel) (by decide +kernel)
theorem fX7_75 : zm_fl RX7 75 7 5 := ⟨by decide, by decide, zm_in (by decide +kernel) (by decide +kernel)⟩
theorem fX7_78 : zm_fl RX7 78 7 6 := ⟨by decide, by decide, zm_in (by decide +kernel) (by decide +kernel)⟩
theorem lX7_81 : Cond.methodLink RX7 81 yX7_gainOf ∈ zm_g := zm_in (by decide +kernel) (by decide +kernel)
theorem lX7_85 : Cond.methodLink RX7 85 yX4_rowsMeet ∈ zm_g := zm_in (by decide +kernel) (by decide +kernel)
theorem lX7_89 : Cond.methodLink RX7 89 yX8_write ∈ zm_g := zm_in (by decide +kernel) (by decide +kernel)
theorem lX7_92 : Cond.methodLink RX7 92 yX8_runsCanWith ∈ zm_g := zm_in (by decide +kernel) (by decide +kernel)
theorem lX7_96 : Cond.methodLink RX7 96 yX8_wipe ∈ zm_g := zm_in (by decide +kernel) (by decide +kernel)
theorem lX7_99 : Cond.methodLink RX7 99 yX4_sidesAt ∈ zm_g := zm_in (by decide +kernel) (by decide +kernel)
theorem lX7_102 : Cond.methodLink RX7 102 yX4_acrossAt ∈ zm_g := zm_in (by decide +kernel) (by decide +kernel)
theorem lX7_106 : Cond.methodLink RX7 106 yX4_downAt ∈ zm_g := zm_in (by decide +kernel) (by decide +kernel)
theorem fX7_109 : zm_fl RX7 109 5 2 := ⟨by decide, by decide, zm_in (by decide +kernel) (by decide +kernel)⟩
theorem lX8_3 : Cond.methodLink RX8 3 Lib.objectInit ∈ zm_g := zm_in (by decide +kernel) (by decide +kernel)
theorem fX8_9 : zm_fl RX8 9 8 0 := ⟨by decide, by decide, zm_in (by decide +kernel) (by decide +kernel)⟩
theorem fX8_15 : zm_fl RX8 15 8 1 := ⟨by decide, by decide, zm_in (by decide +kernel) (by decide +kernel)⟩
theorem nX8_18 : Cond.classLink RX8 18 RX3 ∈ zm_g := zm_in (by decide +kernel) (by decide +kernel)
theorem lX8_20 : Cond.methodLink RX8 20 yX3_init ∈ zm_g := zm_in (by decide +kernel) (by decide +kernel)
theorem fX8_23 : zm_fl RX8 23 8 2 := ⟨by decide, by decide, zm_in (by decide +kernel) (by decide +kernel)⟩
theorem fX8_27 : zm_fl RX8 27 8 3 := ⟨by decide, by decide, zm_in (by decide +kernel) (by decide +kernel)⟩
theorem lX8_30 : Cond.methodLink RX8 30 yX8_isInside ∈ zm_g := zm_in (by decide +kernel) (by decide +kernel)
theorem fX8_34 : zm_fl RX8 34 0 4 := ⟨by decide, by decide, zm_in (by decide +kernel) (by decide +kernel)⟩
theorem fX8_40 : zm_fl RX8 40 0 2 := ⟨by decide, by decide, zm_in (by decide +kernel) (by decide +kernel)⟩
theorem fX8_43 : zm_fl RX8 43 0 3 := ⟨by decide, by decide, zm_in (by decide +kernel) (by decide +kernel)⟩
theorem fX8_46 : zm_fl RX8 46 0 9 := ⟨by decide, by decide, zm_in (by decide +kernel) (by decide +kernel)⟩
theorem lX8_49 : Cond.methodLink RX8 49 yX3_worthOf ∈ zm_g := zm_in (by decide +kernel) (by decide +kernel)
theorem fX8_53 : zm_fl RX8 53 0 10 := ⟨by decide, by decide, zm_in (by decide +kernel) (by decide +kernel)⟩
theorem lX8_55 : Cond.methodLink RX8 55 yX8_taken ∈ zm_g := zm_in (by decide +kernel) (by decide +kernel)
theorem lX8_59 : Cond.methodLink RX8 59 yX8_ownerAt ∈ zm_g := zm_in (by decide +kernel) (by decide +kernel)
theorem lX8_62 : Cond.methodLink RX8 62 yX8_runsCan ∈ zm_g := zm_in (by decide +kernel) (by decide +kernel)
theorem fX8_66 : zm_fl RX8 66 10 0 := ⟨by decide, by decide, zm_in (by decide +kernel) (by decide +kernel)⟩
theorem lX8_71 : Cond.methodLink RX8 71 yX8_write ∈ zm_g := zm_in (by decide +kernel) (by decide +kernel)
theorem fX8_75 : zm_fl RX8 75 0 6 := ⟨by decide, by decide, zm_in (by decide +kernel) (by decide +kernel)⟩
theorem fX8_78 : zm_fl RX8 78 0 5 := ⟨by decide, by decide, zm_in (by decide +kernel) (by decide +kernel)⟩
theorem lX8_81 : Cond.methodLink RX8 81 yX8_wipe ∈ zm_g := zm_in (by decide +kernel) (by decide +kernel)
theorem lX8_84 : Cond.methodLink RX8 84 yX8_startOfRun ∈ zm_g := zm_in (by decide +kernel) (by decide +kernel)
theorem lX8_87 : Cond.methodLink RX8 87 yX8_signAt ∈ zm_g := zm_in (by decide +kernel) (by decide +kernel)
theorem lX8_90 : Cond.methodLinkNest RX8 90 yX11_isText RX11 ∈ zm_nest := by decide +kernel
theorem lX8_94 : Cond.methodLink RX8 94 yX10_beginRun ∈ zm_g := zm_in (by decide +kernel) (by decide +kernel)
theorem lX8_98 : Cond.methodLink RX8 98 yX10_nextSign ∈ zm_g := zm_in (by decide +kernel) (by decide +kernel)
theorem lX8_101 : Cond.methodLink RX8 101 yX10_endRun ∈ zm_g := zm_in (by decide +kernel) (by decide +kernel)
theorem lX8_104 : Cond.methodLink RX8 104 yX10_canBeSome ∈ zm_g := zm_in (by decide +kernel) (by decide +kernel)
theorem lX8_108 : Cond.methodLink RX8 108 yX3_pairsWorth ∈ zm_g := zm_in (by decide +kernel) (by decide +kernel)
theorem lX8_112 : Cond.methodLink RX8 112 yX8_meet ∈ zm_g := zm_in (by decide +kernel) (by decide +kernel)
theorem fX8_115 : zm_fl RX8 115 0 1 := ⟨by decide, by decide, zm_in (by decide +kernel) (by decide +kernel)⟩
theorem fX8_116 : zm_fl RX8 116 0 0 := ⟨by decide, by decide, zm_in (by decide +kernel) (by decide +kernel)⟩
theorem lX8_119 : Cond.methodLink RX8 119 yX8_own ∈ zm_g := zm_in (by decide +kernel) (by decide +kernel)
theorem lX8_123 : Cond.methodLink RX8 123 yX3_change ∈ zm_g := zm_in (by decide +kernel) (by decide +kernel)
theorem fX8_127 : zm_fl RX8 127 0 13 := ⟨by decide, by decide, zm_in (by decide +kernel) (by decide +kernel)⟩
theorem fX8_131 : zm_fl RX8 131 0 14 := ⟨by decide, by decide, zm_in (by decide +kernel) (by decide +kernel)⟩
theorem fX8_134 : zm_fl RX8 134 0 15 := ⟨by decide, by decide, zm_in (by decide +kernel) (by decide +kernel)⟩
theorem fX8_137 : zm_fl RX8 137 8 4 := ⟨by decide, by decide, zm_in (by decide +kernel) (by decide +kernel)⟩
theorem lX9_3 : Cond.methodLink RX9 3 Lib.objectInit ∈ zm_g := zm_in (by decide +kernel) (by decide +kernel)
theorem fX9_9 : zm_fl RX9 9 9 0 := ⟨by decide, by decide, zm_in (by decide +kernel) (by decide +kernel)⟩
theorem fX9_15 : zm_fl RX9 15 9 1 := ⟨by decide, by decide, zm_in (by decide +kernel) (by decide +kernel)⟩
theorem lX9_19 : Cond.methodLinkNest RX9 19 yX11_isLetter RX11 ∈ zm_nest := by decide +kernel
theorem lX10_3 : Cond.methodLink RX10 3 Lib.objectInit ∈ zm_g := zm_in (by decide +kernel) (by decide +kernel)
theorem fX10_13 : zm_fl RX10 13 10 1 := ⟨by decide, by decide, zm_in (by decide +kernel) (by decide +kernel)⟩
theorem fX10_16 : zm_fl RX10 16 10 2 := ⟨by decide, by decide, zm_in (by decide +kernel) (by decide +kernel)⟩
theorem fX10_20 : zm_fl RX10 20 10 3 := ⟨by decide, by decide, zm_in (by decide +kernel) (by decide +kernel)⟩
theorem fX10_23 : zm_fl RX10 23 10 4 := ⟨by decide, by decide, zm_in (by decide +kernel) (by decide +kernel)⟩
theorem fX10_26 : zm_fl RX10 26 10 5 := ⟨by decide, by decide, zm_in (by decide +kernel) (by decide +kernel)⟩
theorem fX10_29 : zm_fl RX10 29 10 0 := ⟨by decide, by decide, zm_in (by decide +kernel) (by decide +kernel)⟩
theorem fX10_33 : zm_fl RX10 33 9 1 := ⟨by decide, by decide, zm_in (by decide +kernel) (by decide +kernel)⟩
theorem fX10_38 : zm_fl RX10 38 9 0 := ⟨by decide, by decide, zm_in (by decide +kernel) (by decide +kernel)⟩
theorem lX10_42 : Cond.methodLink RX10 42 yX10_indexOf ∈ zm_g := zm_in (by decide +kernel) (by decide +kernel)
theorem nL_7 : Cond.classLink RL 7 RX11 ∈ zm_g := zm_in (by decide +kernel) (by decide +kernel)
theorem lL_9 : Cond.methodLink RL 9 yX11_init ∈ zm_g := zm_in (by decide +kernel) (by decide +kernel)
theorem nL_10 : Cond.classLink RL 10 RX12 ∈ zm_g := zm_in (by decide +kernel) (by decide +kernel)
theorem lL_12 : Cond.methodLink RL 12 yX12_init ∈ zm_g := zm_in (by decide +kernel) (by decide +kernel)
theorem lL_13 : Cond.methodLink RL 13 yX11_feed ∈ zm_g := zm_in (by decide +kernel) (by decide +kernel)
theorem lL_17 : Cond.methodLink RL 17 yX12_feed ∈ zm_g := zm_in (by decide +kernel) (by decide +kernel)
theorem lL_18 : Cond.methodLink RL 18 yX11_end ∈ zm_g := zm_in (by decide +kernel) (by decide +kernel)
theorem lL_22 : Cond.methodLink RL 22 yX12_end ∈ zm_g := zm_in (by decide +kernel) (by decide +kernel)
theorem lL_23 : Cond.methodLink RL 23 yX11_bit ∈ zm_g := zm_in (by decide +kernel) (by decide +kernel)
theorem lL_27 : Cond.methodLink RL 27 yX12_bit ∈ zm_g := zm_in (by decide +kernel) (by decide +kernel)
theorem lL_28 : Cond.methodLink RL 28 yX11_cell ∈ zm_g := zm_in (by decide +kernel) (by decide +kernel)
theorem lL_32 : Cond.methodLink RL 32 yX12_cell ∈ zm_g := zm_in (by decide +kernel) (by decide +kernel)
theorem lL_33 : Cond.methodLink RL 33 yX11_fibre ∈ zm_g := zm_in (by decide +kernel) (by decide +kernel)
theorem lL_37 : Cond.methodLink RL 37 yX12_fibre ∈ zm_g := zm_in (by decide +kernel) (by decide +kernel)
theorem lL_38 : Cond.methodLink RL 38 yX11_word ∈ zm_g := zm_in (by decide +kernel) (by decide +kernel)
theorem lL_42 : Cond.methodLink RL 42 yX12_word ∈ zm_g := zm_in (by decide +kernel) (by decide +kernel)
theorem lL_43 : Cond.methodLink RL 43 yX11_lay ∈ zm_g := zm_in (by decide +kernel) (by decide +kernel)
theorem lL_47 : Cond.methodLink RL 47 yX12_lay ∈ zm_g := zm_in (by decide +kernel) (by decide +kernel)
theorem lL_48 : Cond.methodLink RL 48 yX11_take ∈ zm_g := zm_in (by decide +kernel) (by decide +kernel)
theorem lL_51 : Cond.methodLink RL 51 yX12_take ∈ zm_g := zm_in (by decide +kernel) (by decide +kernel)
theorem lL_52 : Cond.methodLink RL 52 yX11_place ∈ zm_g := zm_in (by decide +kernel) (by decide +kernel)
theorem lL_56 : Cond.methodLink RL 56 yX12_place ∈ zm_g := zm_in (by decide +kernel) (by decide +kernel)
theorem lL_57 : Cond.methodLink RL 57 yX11_sheet ∈ zm_g := zm_in (by decide +kernel) (by decide +kernel)
theorem lL_60 : Cond.methodLink RL 60 yX12_sheet ∈ zm_g := zm_in (by decide +kernel) (by decide +kernel)
theorem lL_61 : Cond.methodLink RL 61 yX11_whose ∈ zm_g := zm_in (by decide +kernel) (by decide +kernel)
theorem lL_64 : Cond.methodLink RL 64 yX12_whose ∈ zm_g := zm_in (by decide +kernel) (by decide +kernel)
theorem lL_65 : Cond.methodLink RL 65 yX11_words ∈ zm_g := zm_in (by decide +kernel) (by decide +kernel)
theorem lL_68 : Cond.methodLink RL 68 yX12_words ∈ zm_g := zm_in (by decide +kernel) (by decide +kernel)
theorem lL_69 : Cond.methodLink RL 69 yX11_read ∈ zm_g := zm_in (by decide +kernel) (by decide +kernel)
theorem lL_72 : Cond.methodLink RL 72 yX12_read ∈ zm_g := zm_in (by decide +kernel) (by decide +kernel)
theorem lL_73 : Cond.methodLink RL 73 yX11_worth ∈ zm_g := zm_in (by decide +kernel) (by decide +kernel)
theorem lL_76 : Cond.methodLink RL 76 yX12_worth ∈ zm_g := zm_in (by decide +kernel) (by decide +kernel)
theorem lL_77 : Cond.methodLink RL 77 yX11_join ∈ zm_g := zm_in (by decide +kernel) (by decide +kernel)
theorem lL_80 : Cond.methodLink RL 80 yX12_join ∈ zm_g := zm_in (by decide +kernel) (by decide +kernel)
theorem lL_81 : Cond.methodLink RL 81 yX11_joins ∈ zm_g := zm_in (by decide +kernel) (by decide +kernel)
theorem lL_84 : Cond.methodLink RL 84 yX12_joins ∈ zm_g := zm_in (by decide +kernel) (by decide +kernel)
theorem lL_85 : Cond.methodLink RL 85 yX11_roll ∈ zm_g := zm_in (by decide +kernel) (by decide +kernel)
theorem lL_88 : Cond.methodLink RL 88 yX12_roll ∈ zm_g := zm_in (by decide +kernel) (by decide +kernel)
theorem lL_89 : Cond.methodLink RL 89 yX11_hole ∈ zm_g := zm_in (by decide +kernel) (by decide +kernel)
theorem lL_92 : Cond.methodLink RL 92 yX12_hole ∈ zm_g := zm_in (by decide +kernel) (by decide +kernel)
theorem lL_93 : Cond.methodLink RL 93 yX11_stood ∈ zm_g := zm_in (by decide +kernel) (by decide +kernel)
theorem lL_96 : Cond.methodLink RL 96 yX12_stood ∈ zm_g := zm_in (by decide +kernel) (by decide +kernel)
theorem lL_97 : Cond.methodLink RL 97 yX11_standing ∈ zm_g := zm_in (by decide +kernel) (by decide +kernel)
theorem lL_100 : Cond.methodLink RL 100 yX12_standing ∈ zm_g := zm_in (by decide +kernel) (by decide +kernel)
theorem lL_101 : Cond.methodLink RL 101 yX11_known ∈ zm_g := zm_in (by decide +kernel) (by decide +kernel)
theorem lL_104 : Cond.methodLink RL 104 yX12_known ∈ zm_g := zm_in (by decide +kernel) (by decide +kernel)
theorem lL_105 : Cond.methodLink RL 105 yX11_stands ∈ zm_g := zm_in (by decide +kernel) (by decide +kernel)
theorem lL_108 : Cond.methodLink RL 108 yX12_stands ∈ zm_g := zm_in (by decide +kernel) (by decide +kernel)
theorem lL_109 : Cond.methodLink RL 109 yX11_letter ∈ zm_g := zm_in (by decide +kernel) (by decide +kernel)
theorem lL_112 : Cond.methodLink RL 112 yX12_letter ∈ zm_g := zm_in (by decide +kernel) (by decide +kernel)
theorem lL_113 : Cond.methodLink RL 113 yX11_width ∈ zm_g := zm_in (by decide +kernel) (by decide +kernel)
theorem lL_116 : Cond.methodLink RL 116 yX12_width ∈ zm_g := zm_in (by decide +kernel) (by decide +kernel)
theorem i_X0 : Cond.instantiable RX0 16 ∈ zm_g := zm_in (by decide +kernel) (by decide +kernel)
theorem ii_X0 : Cond.initialized RX0 ∈ zm_g := zm_in (by decide +kernel) (by decide +kernel)
theorem i_X1 : Cond.instantiable RX1 2 ∈ zm_g := zm_in (by decide +kernel) (by decide +kernel)
theorem ii_X1 : Cond.initialized RX1 ∈ zm_g := zm_in (by decide +kernel) (by decide +kernel)
theorem i_X2 : Cond.instantiable RX2 2 ∈ zm_g := zm_in (by decide +kernel) (by decide +kernel)
theorem ii_X2 : Cond.initialized RX2 ∈ zm_g := zm_in (by decide +kernel) (by decide +kernel)
theorem i_X3 : Cond.instantiable RX3 2 ∈ zm_g := zm_in (by decide +kernel) (by decide +kernel)
theorem ii_X3 : Cond.initialized RX3 ∈ zm_g := zm_in (by decide +kernel) (by decide +kernel)
theorem i_X4 : Cond.instantiable RX4 3 ∈ zm_g := zm_in (by decide +kernel) (by decide +kernel)
theorem ii_X4 : Cond.initialized RX4 ∈ zm_g := zm_in (by decide +kernel) (by decide +kernel)
theorem i_X5 : Cond.instantiable RX5 5 ∈ zm_g := zm_in (by decide +kernel) (by decide +kernel)
theorem ii_X5 : Cond.initialized RX5 ∈ zm_g := zm_in (by decide +kernel) (by decide +kernel)
theorem i_X6 : Cond.instantiable RX6 2 ∈ zm_g := zm_in (by decide +kernel) (by decide +kernel)
theorem ii_X6 : Cond.initialized RX6 ∈ zm_g := zm_in (by decide +kernel) (by decide +kernel)
theorem i_X7 : Cond.instantiable RX7 7 ∈ zm_g := zm_in (by decide +kernel) (by decide +kernel)
theorem ii_X7 : Cond.initialized RX7 ∈ zm_g := zm_in (by decide +kernel) (by decide +kernel)
theorem i_X8 : Cond.instantiable RX8 5 ∈ zm_g := zm_in (by decide +kernel) (by decide +kernel)
theorem ii_X8 : Cond.initialized RX8 ∈ zm_g := zm_in (by decide +kernel) (by decide +kernel)
theorem i_X9 : Cond.instantiable RX9 2 ∈ zm_g := zm_in (by decide +kernel) (by decide +kernel)
theorem ii_X9 : Cond.initialized RX9 ∈ zm_g := zm_in (by decide +kernel) (by decide +kernel)
theorem i_X10 : Cond.instantiable RX10 6 ∈ zm_g := zm_in (by decide +kernel) (by decide +kernel)
theorem ii_X10 : Cond.initialized RX10 ∈ zm_g := zm_in (by decide +kernel) (by decide +kernel)
theorem i_X11 : Cond.instantiable RX11 7 ∈ zm_g := zm_in (by decide +kernel) (by decide +kernel)
theorem ii_X11 : Cond.initialized RX11 ∈ zm_g := zm_in (by decide +kernel) (by decide +kernel)
theorem i_X12 : Cond.instantiable RX12 30 ∈ zm_g := zm_in (by decide +kernel) (by decide +kernel)
theorem ii_X12 : Cond.initialized RX12 ∈ zm_g := zm_in (by decide +kernel) (by decide +kernel)
theorem a_int : Cond.arrayClass .int ∈ zm_g := zm_in (by decide +kernel) (by decide +kernel)
theorem a_boolean : Cond.arrayClass .boolean ∈ zm_g := zm_in (by decide +kernel) (by decide +kernel)
theorem a_long : Cond.arrayClass .long ∈ zm_g := zm_in (by decide +kernel) (by decide +kernel)
theorem o_inst : Cond.instanceMethod Lib.objectInit ∈ zm_g := zm_in (by decide +kernel) (by decide +kernel)
theorem o_code : Cond.code Lib.objectInit ⟨#[0xb1]⟩ 1 none ∈ zm_g := zm_in (by decide +kernel) (by decide +kernel)
theorem s_nat : Cond.native arraycopyName ∈ zm_g := zm_in (by decide +kernel) (by decide +kernel)
theorem s_stt : Cond.static arraycopyName ∈ zm_g := zm_in (by decide +kernel) (by decide +kernel)
theorem s_ini : Cond.initialized "java/lang/System" ∈ zm_g := zm_in (by decide +kernel) (by decide +kernel)
end
section
/-! ints as integers -/
def iI (x : Int) : Int32 := Int32.ofInt x
theorem iI_add (x y : Int) : iI x + iI y = iI (x + y) := (Int32.ofInt_add ..).symm
theorem iI_sub (x y : Int) : iI x - iI y = iI (x - y) := (Int32.ofInt_sub ..).symm
theorem iI_mul (x y : Int) : iI x * iI y = iI (x * y) := (Int32.ofInt_mul ..).symm
theorem iI_neg (x : Int) : - iI x = iI (- x) := (Int32.ofInt_neg ..).symm
theorem iI_toInt {x : Int} (h1 : -2147483648 ≤ x) (h2 : x < 2147483648) : (iI x).toInt = x := Int32.toInt_ofInt_of_le (by simpa using h1) (by simpa using h2)
theorem iI_of (v : Int32) : iI v.toInt = v := Int32.ofInt_toInt v
theorem iI_bd (v : Int32) : -2147483648 ≤ v.toInt ∧ v.toInt < 2147483648 := ⟨Int32.le_toInt v, Int32.toInt_lt v⟩
theorem iI_lt {x y : Int} (hx : -2147483648 ≤ x ∧ x < 2147483648) (hy : -2147483648 ≤ y ∧ y < 2147483648) : iI x < iI y ↔ x < y := by
  rw [Int32.lt_iff_toInt_lt, iI_toInt hx.1 hx.2, iI_toInt hy.1 hy.2]
theorem iI_le {x y : Int} (hx : -2147483648 ≤ x ∧ x < 2147483648) (hy : -2147483648 ≤ y ∧ y < 2147483648) : iI x ≤ iI y ↔ x ≤ y := by
  rw [Int32.le_iff_toInt_le, iI_toInt hx.1 hx.2, iI_toInt hy.1 hy.2]
theorem iI_eq {x y : Int} (hx : -2147483648 ≤ x ∧ x < 2147483648) (hy : -2147483648 ≤ y ∧ y < 2147483648) : iI x = iI y ↔ x = y := by
  rw [← Int32.toInt_inj, iI_toInt hx.1 hx.2, iI_toInt hy.1 hy.2]
theorem iI_0 : (0 : Int32) = iI 0 := rfl
theorem iI_clamp {x : Int} (h1 : -2147483648 ≤ x) (h2 : x < 2147483648) : (iI x).toNatClampNeg = x.toNat := by
  show (iI x).toInt.toNat = _
  rw [iI_toInt h1 h2]
theorem iI_in {x : Int} {n : Nat} (h1 : 0 ≤ x) (h2 : x < n) (hn : n ≤ 2147483648) : vp_in (iI x) n := vp_in_iff.mpr (by rw [iI_toInt (by omega) (by omega)]; exact ⟨h1, h2⟩)
theorem iI_div {x y : Int} (hx : 0 ≤ x ∧ x < 2147483648) (hy : 0 < y ∧ y < 2147483648) : iI x / iI y = iI (x / y) := by
  have h0 : x / y ≤ x := Int.ediv_le_self y hx.1
  have h1 : 0 ≤ x / y := Int.ediv_nonneg hx.1 (by omega)
  rw [← Int32.toInt_inj, Int32.toInt_div, iI_toInt (by omega) (by omega), iI_toInt (by omega) (by omega), iI_toInt (by omega) (by omega), Int.tdiv_eq_ediv_of_nonneg hx.1]
  exact Int.bmod_eq_of_le (by omega) (by omega)
theorem iI_rem {x y : Int} (hx : 0 ≤ x ∧ x < 2147483648) (hy : 0 < y ∧ y < 2147483648) : iI x - iI x / iI y * iI y = iI (x % y) := by
  rw [iI_div hx hy, iI_mul, iI_sub]
  congr 1
  have := Int.mul_ediv_add_emod x y
  have e : x / y * y = y * (x / y) := Int.mul_comm _ _
  omega
/-- reading and writing an int of the memory -/
def rd (I : Nat → Nat → Int32) (id k : Nat) : Int := (I id k).toInt
def wr (I : Nat → Nat → Int32) (id k : Nat) (x : Int) : Nat → Nat → Int32 := z_u I id k (iI x)
theorem rd_bd (I : Nat → Nat → Int32) (id k : Nat) : -2147483648 ≤ rd I id k ∧ rd I id k < 2147483648 := iI_bd _
theorem rd_wr {I : Nat → Nat → Int32} {id k i j : Nat} {x : Int} (h1 : -2147483648 ≤ x) (h2 : x < 2147483648) : rd (wr I id k x) i j = if i = id ∧ j = k then x else rd I i j := by
  unfold rd wr z_u
  by_cases h : i = id ∧ j = k
  · rw [if_pos h, if_pos h, iI_toInt h1 h2]
  · rw [if_neg h, if_neg h]
theorem rd_wr_ne {I : Nat → Nat → Int32} {id k i j : Nat} {x : Int} (h : ¬ (i = id ∧ j = k)) : rd (wr I id k x) i j = rd I i j := by
  unfold rd wr z_u
  rw [if_neg h]
theorem rd_wr_row {I : Nat → Nat → Int32} {id k i j : Nat} {x : Int} (h : i ≠ id) : rd (wr I id k x) i j = rd I i j := rd_wr_ne fun q => h q.1
theorem rd_wr_eq {I : Nat → Nat → Int32} {id k : Nat} {x : Int} (h1 : -2147483648 ≤ x) (h2 : x < 2147483648) : rd (wr I id k x) id k = x := by rw [rd_wr h1 h2, if_pos ⟨rfl, rfl⟩]
/-! where references point when all is made -/
def R0b (r k : Nat) : Option Nat := match r, k with
  | 0, 1 => some 1 | 0, 2 => some 2 | 0, 3 => some 3 | 0, 5 => some 4 | 0, 6 => some 5 | 0, 9 => some 6 | 0, 10 => some 9 | 0, 11 => some 12
  | 6, 0 => some 7 | 6, 1 => some 8 | 9, 0 => some 10 | 9, 1 => some 11 | _, _ => none
def R0r (id k : Nat) : Option Nat := match id, k with
  | 134, 1 => some 135 | 134, 2 => some 138 | 134, 3 => some 139 | 134, 4 => some 140 | 134, 5 => some 141 | 135, 0 => some 136 | 135, 1 => some 137
  | 142, 0 => some 143 | 142, 1 => some 144 | 142, 2 => some 145 | 142, 3 => some 148 | 145, 0 => some 146 | 145, 1 => some 147 | 148, 0 => some 149 | 148, 1 => some 150
  | 151, 0 => some 152 | 151, 1 => some 157 | 151, 2 => some 162 | 151, 3 => some 163 | 152, 0 => some 153 | 152, 1 => some 154 | 152, 2 => some 155 | 152, 3 => some 156 | 157, 0 => some 158 | 157, 1 => some 159 | 157, 2 => some 160 | 157, 3 => some 161
  | 163, 0 => some 164 | 163, 1 => some 165 | 163, 2 => some 166 | 167, 0 => some 168 | 169, 0 => some 170
  | 171, 0 => some 172 | 171, 2 => some 173 | 171, 3 => some 174 | 171, 4 => some 175 | 171, 5 => some 176 | 171, 6 => some 177 | 171, 7 => some 178 | 171, 8 => some 179 | 171, 9 => some 180 | 171, 10 => some 181 | 171, 11 => some 182 | 171, 13 => some 183 | 171, 14 => some 184 | 171, 15 => some 185 | 171, 16 => some 186 | 171, 24 => some 187 | 171, 26 => some 188 | 171, 29 => some 189
  | 0, 0 => some 1 | 0, 1 => some 3 | 0, 2 => some 134 | 0, 3 => some 142 | 0, 4 => some 151 | 0, 5 => some 167 | 0, 6 => some 169 | 1, 0 => some 2
  | _, _ => none
def R0 (id k : Nat) : Option Nat := if id = 3 then (if k < 10 then some (4 + 13 * k) else none) else if 4 ≤ id ∧ id < 134 then (R0b ((id - 4) % 13) k).map (fun r => id - (id - 4) % 13 + r) else R0r id k
/-- cell r of BIT b -/
def bI (b r : Nat) : Nat := 4 + 13 * b + r
theorem bI_mod {b r : Nat} (hb : b < 10) (hr : r < 13) : bI b r < 134 ∧ 4 ≤ bI b r ∧ (bI b r - 4) % 13 = r := by
  unfold bI
  omega
theorem sh_b {b r : Nat} (hb : b < 10) (hr : r < 13) : zm_sh (bI b r) = zm_sb r := by
  obtain ⟨h1, h2, h3⟩ := bI_mod hb hr
  unfold zm_sh
  rw [if_neg (by omega), if_pos h1, h3]
theorem r0_b {b r k : Nat} (hb : b < 10) (hr : r < 13) : R0 (bI b r) k = (R0b r k).map (fun q => bI b q) := by
  obtain ⟨h1, h2, h3⟩ := bI_mod hb hr
  unfold R0
  rw [if_neg (by omega), if_pos ⟨h2, h1⟩, h3]
  have e : bI b r - r = 4 + 13 * b := by unfold bI; omega
  rw [e]
  rfl
theorem r0_bits {b : Nat} (hb : b < 10) : R0 3 b = some (bI b 0) := by
  unfold R0
  rw [if_pos rfl, if_pos hb]
  rfl
abbrev gM (I : Nat → Nat → Int32) (J : Nat → Nat → Int64) : zM := (I, J, R0, 190)
def sO (id ci : Nat) : Prop := id < 190 ∧ zm_sh id = .inl ci
def sA (id : Nat) (ty : FieldType) (n : Nat) : Prop := id < 190 ∧ zm_sh id = .inr (ty, n)
theorem sO_b {b r ci : Nat} (hb : b < 10) (hr : r < 13) (h : zm_sb r = .inl ci) : sO (bI b r) ci := ⟨Nat.lt_of_lt_of_le (bI_mod hb hr).1 (by decide), (sh_b hb hr).trans h⟩
theorem sA_b {b r n : Nat} {ty : FieldType} (hb : b < 10) (hr : r < 13) (h : zm_sb r = .inr (ty, n)) : sA (bI b r) ty n := ⟨Nat.lt_of_lt_of_le (bI_mod hb hr).1 (by decide), (sh_b hb hr).trans h⟩
abbrev sE (K : zK) (own : String) : zE := zk_E K own 190 false
section VR
variable {E : zE} {Q : Option Value → zM → Prop} {pc : Nat} {lv : List (Nat × Value)} {st : List Value} {m : zM} {I : Nat → Nat → Int32} {J : Nat → Nat → Int64} {x y : Int}
theorem v_iadd (hdg : decode (ze_cc E) pc = .ok (.iadd, 1)) (k : Wp E Q (pc + 1) lv (.int (iI (x + y)) :: st) m) : Wp E Q pc lv (.int (iI y) :: .int (iI x) :: st) m := w_iadd hdg (by rw [iI_add]; exact k)
theorem v_isub (hdg : decode (ze_cc E) pc = .ok (.isub, 1)) (k : Wp E Q (pc + 1) lv (.int (iI (x - y)) :: st) m) : Wp E Q pc lv (.int (iI y) :: .int (iI x) :: st) m := w_isub hdg (by rw [iI_sub]; exact k)
theorem v_imul (hdg : decode (ze_cc E) pc = .ok (.imul, 1)) (k : Wp E Q (pc + 1) lv (.int (iI (x * y)) :: st) m) : Wp E Q pc lv (.int (iI y) :: .int (iI x) :: st) m := w_imul hdg (by rw [iI_mul]; exact k)
theorem v_ineg (hdg : decode (ze_cc E) pc = .ok (.ineg, 1)) (k : Wp E Q (pc + 1) lv (.int (iI (- x)) :: st) m) : Wp E Q pc lv (.int (iI x) :: st) m := w_ineg hdg (by rw [iI_neg]; exact k)
theorem v_idiv (hdg : decode (ze_cc E) pc = .ok (.idiv, 1)) (hx : 0 ≤ x ∧ x < 2147483648) (hy : 0 < y ∧ y < 2147483648) (k : Wp E Q (pc + 1) lv (.int (iI (x / y)) :: st) m) : Wp E Q pc lv (.int (iI y) :: .int (iI x) :: st) m := w_idiv hdg (by rw [iI_0, iI_eq (by omega) (by omega)]; omega) (by rw [iI_div hx hy]; exact k)
theorem v_irem (hdg : decode (ze_cc E) pc = .ok (.irem, 1)) (hx : 0 ≤ x ∧ x < 2147483648) (hy : 0 < y ∧ y < 2147483648) (k : Wp E Q (pc + 1) lv (.int (iI (x % y)) :: st) m) : Wp E Q pc lv (.int (iI y) :: .int (iI x) :: st) m := w_irem hdg (by rw [iI_0, iI_eq (by omega) (by omega)]; omega) (by rw [iI_rem hx hy]; exact k)
theorem v_if_eq {off : Int} (tgt : Nat) (hdg : decode (ze_cc E) pc = .ok (.ifCond .eq off, 3)) (ht : (pc : Int) + off = (tgt : Int)) (hx : -2147483648 ≤ x ∧ x < 2147483648) (kt : x = 0 → Wp E Q tgt lv st m) (kf : ¬ x = 0 → Wp E Q (pc + 3) lv st m) : Wp E Q pc lv (.int (iI x) :: st) m := w_if_eq tgt hdg ht (fun q => kt ((iI_eq hx (by omega)).mp (by rw [← iI_0]; exact q))) (fun q => kf (fun z => q (by rw [iI_0]; exact (iI_eq hx (by omega)).mpr z)))
theorem v_icmp_eq {off : Int} (tgt : Nat) (hdg : decode (ze_cc E) pc = .ok (.if_icmp .eq off, 3)) (ht : (pc : Int) + off = (tgt : Int)) (hx : -2147483648 ≤ x ∧ x < 2147483648) (hy : -2147483648 ≤ y ∧ y < 2147483648) (kt : x = y → Wp E Q tgt lv st m) (kf : ¬ x = y → Wp E Q (pc + 3) lv st m) : Wp E Q pc lv (.int (iI y) :: .int (iI x) :: st) m := w_icmp_eq tgt hdg ht (fun q => kt ((iI_eq hx hy).mp q)) (fun q => kf (fun z => q ((iI_eq hx hy).mpr z)))
theorem v_if_ne {off : Int} (tgt : Nat) (hdg : decode (ze_cc E) pc = .ok (.ifCond .ne off, 3)) (ht : (pc : Int) + off = (tgt : Int)) (hx : -2147483648 ≤ x ∧ x < 2147483648) (kt : ¬ x = 0 → Wp E Q tgt lv st m) (kf : x = 0 → Wp E Q (pc + 3) lv st m) : Wp E Q pc lv (.int (iI x) :: st) m := w_if_ne tgt hdg ht (fun q => kt (fun z => q (by rw [iI_0]; exact (iI_eq hx (by omega)).mpr z))) (fun q => kf ((iI_eq hx (by omega)).mp (by rw [← iI_0]; exact q)))
theorem v_icmp_ne {off : Int} (tgt : Nat) (hdg : decode (ze_cc E) pc = .ok (.if_icmp .ne off, 3)) (ht : (pc : Int) + off = (tgt : Int)) (hx : -2147483648 ≤ x ∧ x < 2147483648) (hy : -2147483648 ≤ y ∧ y < 2147483648) (kt : ¬ x = y → Wp E Q tgt lv st m) (kf : x = y → Wp E Q (pc + 3) lv st m) : Wp E Q pc lv (.int (iI y) :: .int (iI x) :: st) m := w_icmp_ne tgt hdg ht (fun q => kt (fun z => q ((iI_eq hx hy).mpr z))) (fun q => kf ((iI_eq hx hy).mp q))
theorem v_if_lt {off : Int} (tgt : Nat) (hdg : decode (ze_cc E) pc = .ok (.ifCond .lt off, 3)) (ht : (pc : Int) + off = (tgt : Int)) (hx : -2147483648 ≤ x ∧ x < 2147483648) (kt : x < 0 → Wp E Q tgt lv st m) (kf : ¬ x < 0 → Wp E Q (pc + 3) lv st m) : Wp E Q pc lv (.int (iI x) :: st) m := w_if_lt tgt hdg ht (fun q => kt ((iI_lt hx (by omega)).mp (by rw [← iI_0]; exact q))) (fun q => kf (fun z => q (by rw [iI_0]; exact (iI_lt hx (by omega)).mpr z)))
theorem v_icmp_lt {off : Int} (tgt : Nat) (hdg : decode (ze_cc E) pc = .ok (.if_icmp .lt off, 3)) (ht : (pc : Int) + off = (tgt : Int)) (hx : -2147483648 ≤ x ∧ x < 2147483648) (hy : -2147483648 ≤ y ∧ y < 2147483648) (kt : x < y → Wp E Q tgt lv st m) (kf : ¬ x < y → Wp E Q (pc + 3) lv st m) : Wp E Q pc lv (.int (iI y) :: .int (iI x) :: st) m := w_icmp_lt tgt hdg ht (fun q => kt ((iI_lt hx hy).mp q)) (fun q => kf (fun z => q ((iI_lt hx hy).mpr z)))
theorem v_if_ge {off : Int} (tgt : Nat) (hdg : decode (ze_cc E) pc = .ok (.ifCond .ge off, 3)) (ht : (pc : Int) + off = (tgt : Int)) (hx : -2147483648 ≤ x ∧ x < 2147483648) (kt : 0 ≤ x → Wp E Q tgt lv st m) (kf : ¬ 0 ≤ x → Wp E Q (pc + 3) lv st m) : Wp E Q pc lv (.int (iI x) :: st) m := w_if_ge tgt hdg ht (fun q => kt ((iI_le (by omega) hx).mp (by rw [← iI_0]; exact q))) (fun q => kf (fun z => q (by rw [iI_0]; exact (iI_le (by omega) hx).mpr z)))
theorem v_icmp_ge {off : Int} (tgt : Nat) (hdg : decode (ze_cc E) pc = .ok (.if_icmp .ge off, 3)) (ht : (pc : Int) + off = (tgt : Int)) (hx : -2147483648 ≤ x ∧ x < 2147483648) (hy : -2147483648 ≤ y ∧ y < 2147483648) (kt : y ≤ x → Wp E Q tgt lv st m) (kf : ¬ y ≤ x → Wp E Q (pc + 3) lv st m) : Wp E Q pc lv (.int (iI y) :: .int (iI x) :: st) m := w_icmp_ge tgt hdg ht (fun q => kt ((iI_le hy hx).mp q)) (fun q => kf (fun z => q ((iI_le hy hx).mpr z)))
theorem v_if_gt {off : Int} (tgt : Nat) (hdg : decode (ze_cc E) pc = .ok (.ifCond .gt off, 3)) (ht : (pc : Int) + off = (tgt : Int)) (hx : -2147483648 ≤ x ∧ x < 2147483648) (kt : 0 < x → Wp E Q tgt lv st m) (kf : ¬ 0 < x → Wp E Q (pc + 3) lv st m) : Wp E Q pc lv (.int (iI x) :: st) m := w_if_gt tgt hdg ht (fun q => kt ((iI_lt (by omega) hx).mp (by rw [← iI_0]; exact q))) (fun q => kf (fun z => q (by rw [iI_0]; exact (iI_lt (by omega) hx).mpr z)))
theorem v_icmp_gt {off : Int} (tgt : Nat) (hdg : decode (ze_cc E) pc = .ok (.if_icmp .gt off, 3)) (ht : (pc : Int) + off = (tgt : Int)) (hx : -2147483648 ≤ x ∧ x < 2147483648) (hy : -2147483648 ≤ y ∧ y < 2147483648) (kt : y < x → Wp E Q tgt lv st m) (kf : ¬ y < x → Wp E Q (pc + 3) lv st m) : Wp E Q pc lv (.int (iI y) :: .int (iI x) :: st) m := w_icmp_gt tgt hdg ht (fun q => kt ((iI_lt hy hx).mp q)) (fun q => kf (fun z => q ((iI_lt hy hx).mpr z)))
theorem v_if_le {off : Int} (tgt : Nat) (hdg : decode (ze_cc E) pc = .ok (.ifCond .le off, 3)) (ht : (pc : Int) + off = (tgt : Int)) (hx : -2147483648 ≤ x ∧ x < 2147483648) (kt : x ≤ 0 → Wp E Q tgt lv st m) (kf : ¬ x ≤ 0 → Wp E Q (pc + 3) lv st m) : Wp E Q pc lv (.int (iI x) :: st) m := w_if_le tgt hdg ht (fun q => kt ((iI_le hx (by omega)).mp (by rw [← iI_0]; exact q))) (fun q => kf (fun z => q (by rw [iI_0]; exact (iI_le hx (by omega)).mpr z)))
theorem v_icmp_le {off : Int} (tgt : Nat) (hdg : decode (ze_cc E) pc = .ok (.if_icmp .le off, 3)) (ht : (pc : Int) + off = (tgt : Int)) (hx : -2147483648 ≤ x ∧ x < 2147483648) (hy : -2147483648 ≤ y ∧ y < 2147483648) (kt : x ≤ y → Wp E Q tgt lv st m) (kf : ¬ x ≤ y → Wp E Q (pc + 3) lv st m) : Wp E Q pc lv (.int (iI y) :: .int (iI x) :: st) m := w_icmp_le tgt hdg ht (fun q => kt ((iI_le hx hy).mp q)) (fun q => kf (fun z => q ((iI_le hx hy).mpr z)))
theorem v_iinc {i : Nat} {n : Int} (hdg : decode (ze_cc E) pc = .ok (.iinc i n, 3)) (hl : z_get lv i = some (.int (iI x))) (hi : Nat.blt i (ze_nL E) = true) (hno : z_nol lv i = true) (k : Wp E Q (pc + 3) (z_put lv i (.int (iI (x + n)))) st m) : Wp E Q pc lv st m := w_iinc hdg hl (iI_add x n) hi hno k
theorem v_getI {idx id ci kf : Nat} (hdg : decode (ze_cc E) pc = .ok (.getfield idx, 3)) (hf : zm_fl (ze_own E) idx ci kf) (hs : sO id ci) (ht : zm_T ci kf = .int ∨ zm_T ci kf = .boolean) (k : ∀ z : Int, z = rd I id kf → -2147483648 ≤ z ∧ z < 2147483648 → Wp E Q (pc + 3) lv (.int (iI z) :: st) (gM I J)) : Wp E Q pc lv (.ref id :: st) (gM I J) := w_getI hdg hf hs.1 hs.2 ht (by have := k _ rfl (rd_bd I id kf); rw [show iI (rd I id kf) = I id kf from iI_of _] at this; exact this)
theorem v_getR {idx id ci kf j : Nat} (hdg : decode (ze_cc E) pc = .ok (.getfield idx, 3)) (hf : zm_fl (ze_own E) idx ci kf) (hs : sO id ci) (ht : zm_rt (zm_T ci kf) = true) (hj : R0 id kf = some j) (k : Wp E Q (pc + 3) lv (.ref j :: st) (gM I J)) : Wp E Q pc lv (.ref id :: st) (gM I J) := w_getR hdg hf hs.1 hs.2 ht hj k
theorem v_putI {idx id ci kf : Nat} (hdg : decode (ze_cc E) pc = .ok (.putfield idx, 3)) (hf : zm_fl (ze_own E) idx ci kf) (hs : sO id ci) (hfin : (zm_F ci kf).2.2.2 = false) (ht : zm_T ci kf = .int ∨ (zm_T ci kf = .boolean ∧ (x = 0 ∨ x = 1))) (k : Wp E Q (pc + 3) lv st (gM (wr I id kf x) J)) : Wp E Q pc lv (.int (iI x) :: .ref id :: st) (gM I J) := w_putI hdg hf hs.1 hs.2 hfin (ht.imp (fun q => q) (fun q => ⟨q.1, q.2.imp (fun e => by rw [e]; rfl) (fun e => by rw [e]; rfl)⟩)) k
theorem v_iald {id n : Nat} (hdg : decode (ze_cc E) pc = .ok (.iaload, 1)) (hs : sA id .int n) (h0 : 0 ≤ x) (h1 : x < n) (hn : n ≤ 2147483648) (k : ∀ z : Int, z = rd I id x.toNat → -2147483648 ≤ z ∧ z < 2147483648 → Wp E Q (pc + 1) lv (.int (iI z) :: st) (gM I J)) : Wp E Q pc lv (.int (iI x) :: .ref id :: st) (gM I J) := w_iald hdg hs.1 hs.2 (iI_in h0 h1 hn) (by rw [iI_clamp (by omega) (by omega)]; have := k _ rfl (rd_bd I id x.toNat); rw [show iI (rd I id x.toNat) = I id x.toNat from iI_of _] at this; exact this)
theorem v_zald {id n : Nat} (hdg : decode (ze_cc E) pc = .ok (.baload, 1)) (hs : sA id .boolean n) (h0 : 0 ≤ x) (h1 : x < n) (hn : n ≤ 2147483648) (k : ∀ z : Int, z = rd I id x.toNat → -2147483648 ≤ z ∧ z < 2147483648 → Wp E Q (pc + 1) lv (.int (iI z) :: st) (gM I J)) : Wp E Q pc lv (.int (iI x) :: .ref id :: st) (gM I J) := w_zald hdg hs.1 hs.2 (iI_in h0 h1 hn) (by rw [iI_clamp (by omega) (by omega)]; have := k _ rfl (rd_bd I id x.toNat); rw [show iI (rd I id x.toNat) = I id x.toNat from iI_of _] at this; exact this)
theorem v_iast {id n : Nat} (hdg : decode (ze_cc E) pc = .ok (.iastore, 1)) (hs : sA id .int n) (h0 : 0 ≤ x) (h1 : x < n) (hn : n ≤ 2147483648) (k : Wp E Q (pc + 1) lv st (gM (wr I id x.toNat y) J)) : Wp E Q pc lv (.int (iI y) :: .int (iI x) :: .ref id :: st) (gM I J) := w_iast hdg hs.1 hs.2 (iI_in h0 h1 hn) (by rw [iI_clamp (by omega) (by omega)]; exact k)
theorem v_zast {id n : Nat} (hdg : decode (ze_cc E) pc = .ok (.bastore, 1)) (hs : sA id .boolean n) (h0 : 0 ≤ x) (h1 : x < n) (hn : n ≤ 2147483648) (h01 : y = 0 ∨ y = 1) (k : Wp E Q (pc + 1) lv st (gM (wr I id x.toNat y) J)) : Wp E Q pc lv (.int (iI y) :: .int (iI x) :: .ref id :: st) (gM I J) := w_zast hdg hs.1 hs.2 (iI_in h0 h1 hn) (h01.imp (fun e => by rw [e]; rfl) (fun e => by rw [e]; rfl)) (by rw [iI_clamp (by omega) (by omega)]; exact k)
theorem v_lald {id n : Nat} (hdg : decode (ze_cc E) pc = .ok (.laload, 1)) (hs : sA id .long n) (h0 : 0 ≤ x) (h1 : x < n) (hn : n ≤ 2147483648) (k : Wp E Q (pc + 1) lv (.long (J id x.toNat) :: st) (gM I J)) : Wp E Q pc lv (.int (iI x) :: .ref id :: st) (gM I J) := w_lald hdg hs.1 hs.2 (iI_in h0 h1 hn) (by rw [iI_clamp (by omega) (by omega)]; exact k)
theorem v_last {id n : Nat} {v : Int64} (hdg : decode (ze_cc E) pc = .ok (.lastore, 1)) (hs : sA id .long n) (h0 : 0 ≤ x) (h1 : x < n) (hn : n ≤ 2147483648) (k : Wp E Q (pc + 1) lv st (gM I (z_u J id x.toNat v))) : Wp E Q pc lv (.long v :: .int (iI x) :: .ref id :: st) (gM I J) := w_last hdg hs.1 hs.2 (iI_in h0 h1 hn) (by rw [iI_clamp (by omega) (by omega)]; exact k)
theorem v_aald (hdg : decode (ze_cc E) pc = .ok (.aaload, 1)) (h0 : 0 ≤ x) (h1 : x < 10) (k : Wp E Q (pc + 1) lv (.ref (bI x.toNat 0) :: st) (gM I J)) : Wp E Q pc lv (.int (iI x) :: .ref 3 :: st) (gM I J) := w_aald (n := 10) hdg (show 3 < 190 by decide) rfl (iI_in h0 h1 (by decide)) (by rw [iI_clamp (by omega) (by omega)]; exact r0_bits (by omega)) k
theorem v_gald (hdg : decode (ze_cc E) pc = .ok (.aaload, 1)) (h0 : x = 0 ∨ x = 1) (k : Wp E Q (pc + 1) lv (.ref (136 + x.toNat) :: st) (gM I J)) : Wp E Q pc lv (.int (iI x) :: .ref 135 :: st) (gM I J) := w_gald (n := 2) hdg (show 135 < 190 by decide) rfl (iI_in (by omega) (show x < (2 : Nat) by omega) (by decide)) (by rw [iI_clamp (by omega) (by omega)]; rcases h0 with rfl | rfl <;> rfl) k
theorem v_alen0 {id n : Nat} (hdg : decode (ze_cc E) pc = .ok (.arraylength, 1)) (hs : sA id .int n) (k : Wp E Q (pc + 1) lv (.int (iI (n : Int)) :: st) (gM I J)) : Wp E Q pc lv (.ref id :: st) (gM I J) := w_alen0 hdg hs.1 hs.2 (by show Int32.ofNat n = Int32.ofInt n; exact (Int32.ofInt_eq_ofNat).symm) k
theorem v_alen1 {id n : Nat} (hdg : decode (ze_cc E) pc = .ok (.arraylength, 1)) (hs : sA id .boolean n) (k : Wp E Q (pc + 1) lv (.int (iI (n : Int)) :: st) (gM I J)) : Wp E Q pc lv (.ref id :: st) (gM I J) := w_alen1 hdg hs.1 hs.2 (by show Int32.ofNat n = Int32.ofInt n; exact (Int32.ofInt_eq_ofNat).symm) k
theorem v_alen2 {id n : Nat} (hdg : decode (ze_cc E) pc = .ok (.arraylength, 1)) (hs : sA id .long n) (k : Wp E Q (pc + 1) lv (.int (iI (n : Int)) :: st) (gM I J)) : Wp E Q pc lv (.ref id :: st) (gM I J) := w_alen2 hdg hs.1 hs.2 (by show Int32.ofNat n = Int32.ofInt n; exact (Int32.ofInt_eq_ofNat).symm) k
theorem v_iret {v : Int32} (hdg : decode (ze_cc E) pc = .ok (.ireturn, 1)) (hr : ze_ret E = some .int) (hn : ze_n0 E = 190 ∧ ze_mc E = 0) (k : Q (some (.int v)) (gM I J)) : Wp E Q pc lv [.int v] (gM I J) := w_ret (some (.int v)) hdg (by rw [hr]; trivial) (by rw [hn.1, hn.2]) k
theorem v_zret (hdg : decode (ze_cc E) pc = .ok (.ireturn, 1)) (hr : ze_ret E = some .boolean) (hn : ze_n0 E = 190 ∧ ze_mc E = 0) (h01 : x = 0 ∨ x = 1) (k : Q (some (.int (iI x))) (gM I J)) : Wp E Q pc lv [.int (iI x)] (gM I J) := w_ret (some (.int (iI x))) hdg (by rw [hr]; exact h01.imp (fun e => by rw [e]; rfl) (fun e => by rw [e]; rfl)) (by rw [hn.1, hn.2]) k
theorem v_vret (hdg : decode (ze_cc E) pc = .ok (.return_, 1)) (hr : ze_ret E = none) (hn : ze_n0 E = 190 ∧ ze_mc E = 0) (k : Q none (gM I J)) : Wp E Q pc lv [] (gM I J) := w_ret none hdg (by rw [hr]; trivial) (by rw [hn.1, hn.2]) k
theorem v_aret {C : String} {id : Nat} (hdg : decode (ze_cc E) pc = .ok (.areturn, 1)) (hr : ze_ret E = some (.object C)) (hn : ze_n0 E = 190 ∧ ze_mc E = 0) (k : Q (some (.ref id)) (gM I J)) : Wp E Q pc lv [.ref id] (gM I J) := w_ret (some (.ref id)) hdg (by rw [hr]; trivial) (by rw [hn.1, hn.2]) k
theorem v_nret {C : String} (hdg : decode (ze_cc E) pc = .ok (.areturn, 1)) (hr : ze_ret E = some (.object C)) (hn : ze_n0 E = 190 ∧ ze_mc E = 0) (k : Q (some .null) (gM I J)) : Wp E Q pc lv [.null] (gM I J) := w_ret (some .null) hdg (by rw [hr]; trivial) (by rw [hn.1, hn.2]) k
theorem v_callV0 {idx id ci : Nat} {y : MethodName} {K : zK} (hdg : decode (ze_cc E) pc = .ok (.invokevirtual idx, 3)) (hl : Cond.methodLink (ze_own E) idx y ∈ zm_g) (hy : zm_yv y K 0) (hh : zk_h K + 1 ≤ ze_h E) (hmc : zk_mc K = 0) (hn : ze_n0 E = 190) (hs : sO id ci) (hci : ci < 13) (hc : zm_C ci = y.cls) (hw : (st.map fun v => v.category).sum ≤ 8) (k : Cl y K (.ref id :: []) (gM I J) (fun r m' => Wp E Q (pc + 3) lv (r.toList ++ st) m')) : Wp E Q pc lv (.ref id :: st) (gM I J) := w_callV (as := []) hdg hl hy hh rfl rfl hs.1 hs.2 hci hc hw (by rw [hmc, hn]; exact Nat.le_add_right _ _) k
theorem v_callS0 {idx : Nat} {y : MethodName} {K : zK} (hdg : decode (ze_cc E) pc = .ok (.invokestatic idx, 3)) (hl : Cond.methodLink (ze_own E) idx y ∈ zm_g) (hy : zm_ys y K 0) (hh : zk_h K + 1 ≤ ze_h E) (hmc : zk_mc K = 0) (hn : ze_n0 E = 190) (hw : (st.map fun v => v.category).sum ≤ 8) (k : Cl y K [] (gM I J) (fun r m' => Wp E Q (pc + 3) lv (r.toList ++ st) m')) : Wp E Q pc lv (st) (gM I J) := w_callS (as := []) hdg hl hy hh rfl rfl hw (by rw [hmc, hn]; exact Nat.le_add_right _ _) k
theorem v_callSN0 {idx : Nat} {y : MethodName} {K : zK} {host : String} (hdg : decode (ze_cc E) pc = .ok (.invokestatic idx, 3)) (hl : Cond.methodLinkNest (ze_own E) idx y host ∈ zm_nest) (hy : zm_ys y K 0) (hh : zk_h K + 1 ≤ ze_h E) (hmc : zk_mc K = 0) (hn : ze_n0 E = 190) (hw : (st.map fun v => v.category).sum ≤ 8) (k : Cl y K [] (gM I J) (fun r m' => Wp E Q (pc + 3) lv (r.toList ++ st) m')) : Wp E Q pc lv (st) (gM I J) := w_callSN (as := []) hdg hl hy hh rfl rfl hw (by rw [hmc, hn]; exact Nat.le_add_right _ _) k
theorem v_callV1 {idx id ci : Nat} {y : MethodName} {K : zK} {a1 : Value} (hdg : decode (ze_cc E) pc = .ok (.invokevirtual idx, 3)) (hl : Cond.methodLink (ze_own E) idx y ∈ zm_g) (hy : zm_yv y K 1) (hh : zk_h K + 1 ≤ ze_h E) (hmc : zk_mc K = 0) (hn : ze_n0 E = 190) (hs : sO id ci) (hci : ci < 13) (hc : zm_C ci = y.cls) (hw : (st.map fun v => v.category).sum ≤ 8) (k : Cl y K (.ref id :: [a1]) (gM I J) (fun r m' => Wp E Q (pc + 3) lv (r.toList ++ st) m')) : Wp E Q pc lv (a1 :: .ref id :: st) (gM I J) := w_callV (as := [a1]) hdg hl hy hh rfl rfl hs.1 hs.2 hci hc hw (by rw [hmc, hn]; exact Nat.le_add_right _ _) k
theorem v_callS1 {idx : Nat} {y : MethodName} {K : zK} {a1 : Value} (hdg : decode (ze_cc E) pc = .ok (.invokestatic idx, 3)) (hl : Cond.methodLink (ze_own E) idx y ∈ zm_g) (hy : zm_ys y K 1) (hh : zk_h K + 1 ≤ ze_h E) (hmc : zk_mc K = 0) (hn : ze_n0 E = 190) (hw : (st.map fun v => v.category).sum ≤ 8) (k : Cl y K [a1] (gM I J) (fun r m' => Wp E Q (pc + 3) lv (r.toList ++ st) m')) : Wp E Q pc lv (a1 :: st) (gM I J) := w_callS (as := [a1]) hdg hl hy hh rfl rfl hw (by rw [hmc, hn]; exact Nat.le_add_right _ _) k
theorem v_callSN1 {idx : Nat} {y : MethodName} {K : zK} {host : String} {a1 : Value} (hdg : decode (ze_cc E) pc = .ok (.invokestatic idx, 3)) (hl : Cond.methodLinkNest (ze_own E) idx y host ∈ zm_nest) (hy : zm_ys y K 1) (hh : zk_h K + 1 ≤ ze_h E) (hmc : zk_mc K = 0) (hn : ze_n0 E = 190) (hw : (st.map fun v => v.category).sum ≤ 8) (k : Cl y K [a1] (gM I J) (fun r m' => Wp E Q (pc + 3) lv (r.toList ++ st) m')) : Wp E Q pc lv (a1 :: st) (gM I J) := w_callSN (as := [a1]) hdg hl hy hh rfl rfl hw (by rw [hmc, hn]; exact Nat.le_add_right _ _) k
theorem v_callV2 {idx id ci : Nat} {y : MethodName} {K : zK} {a1 a2 : Value} (hdg : decode (ze_cc E) pc = .ok (.invokevirtual idx, 3)) (hl : Cond.methodLink (ze_own E) idx y ∈ zm_g) (hy : zm_yv y K 2) (hh : zk_h K + 1 ≤ ze_h E) (hmc : zk_mc K = 0) (hn : ze_n0 E = 190) (hs : sO id ci) (hci : ci < 13) (hc : zm_C ci = y.cls) (hw : (st.map fun v => v.category).sum ≤ 8) (k : Cl y K (.ref id :: [a1, a2]) (gM I J) (fun r m' => Wp E Q (pc + 3) lv (r.toList ++ st) m')) : Wp E Q pc lv (a2 :: a1 :: .ref id :: st) (gM I J) := w_callV (as := [a1, a2]) hdg hl hy hh rfl rfl hs.1 hs.2 hci hc hw (by rw [hmc, hn]; exact Nat.le_add_right _ _) k
theorem v_callS2 {idx : Nat} {y : MethodName} {K : zK} {a1 a2 : Value} (hdg : decode (ze_cc E) pc = .ok (.invokestatic idx, 3)) (hl : Cond.methodLink (ze_own E) idx y ∈ zm_g) (hy : zm_ys y K 2) (hh : zk_h K + 1 ≤ ze_h E) (hmc : zk_mc K = 0) (hn : ze_n0 E = 190) (hw : (st.map fun v => v.category).sum ≤ 8) (k : Cl y K [a1, a2] (gM I J) (fun r m' => Wp E Q (pc + 3) lv (r.toList ++ st) m')) : Wp E Q pc lv (a2 :: a1 :: st) (gM I J) := w_callS (as := [a1, a2]) hdg hl hy hh rfl rfl hw (by rw [hmc, hn]; exact Nat.le_add_right _ _) k
theorem v_callSN2 {idx : Nat} {y : MethodName} {K : zK} {host : String} {a1 a2 : Value} (hdg : decode (ze_cc E) pc = .ok (.invokestatic idx, 3)) (hl : Cond.methodLinkNest (ze_own E) idx y host ∈ zm_nest) (hy : zm_ys y K 2) (hh : zk_h K + 1 ≤ ze_h E) (hmc : zk_mc K = 0) (hn : ze_n0 E = 190) (hw : (st.map fun v => v.category).sum ≤ 8) (k : Cl y K [a1, a2] (gM I J) (fun r m' => Wp E Q (pc + 3) lv (r.toList ++ st) m')) : Wp E Q pc lv (a2 :: a1 :: st) (gM I J) := w_callSN (as := [a1, a2]) hdg hl hy hh rfl rfl hw (by rw [hmc, hn]; exact Nat.le_add_right _ _) k
theorem v_callV3 {idx id ci : Nat} {y : MethodName} {K : zK} {a1 a2 a3 : Value} (hdg : decode (ze_cc E) pc = .ok (.invokevirtual idx, 3)) (hl : Cond.methodLink (ze_own E) idx y ∈ zm_g) (hy : zm_yv y K 3) (hh : zk_h K + 1 ≤ ze_h E) (hmc : zk_mc K = 0) (hn : ze_n0 E = 190) (hs : sO id ci) (hci : ci < 13) (hc : zm_C ci = y.cls) (hw : (st.map fun v => v.category).sum ≤ 8) (k : Cl y K (.ref id :: [a1, a2, a3]) (gM I J) (fun r m' => Wp E Q (pc + 3) lv (r.toList ++ st) m')) : Wp E Q pc lv (a3 :: a2 :: a1 :: .ref id :: st) (gM I J) := w_callV (as := [a1, a2, a3]) hdg hl hy hh rfl rfl hs.1 hs.2 hci hc hw (by rw [hmc, hn]; exact Nat.le_add_right _ _) k
theorem v_callS3 {idx : Nat} {y : MethodName} {K : zK} {a1 a2 a3 : Value} (hdg : decode (ze_cc E) pc = .ok (.invokestatic idx, 3)) (hl : Cond.methodLink (ze_own E) idx y ∈ zm_g) (hy : zm_ys y K 3) (hh : zk_h K + 1 ≤ ze_h E) (hmc : zk_mc K = 0) (hn : ze_n0 E = 190) (hw : (st.map fun v => v.category).sum ≤ 8) (k : Cl y K [a1, a2, a3] (gM I J) (fun r m' => Wp E Q (pc + 3) lv (r.toList ++ st) m')) : Wp E Q pc lv (a3 :: a2 :: a1 :: st) (gM I J) := w_callS (as := [a1, a2, a3]) hdg hl hy hh rfl rfl hw (by rw [hmc, hn]; exact Nat.le_add_right _ _) k
theorem v_callV4 {idx id ci : Nat} {y : MethodName} {K : zK} {a1 a2 a3 a4 : Value} (hdg : decode (ze_cc E) pc = .ok (.invokevirtual idx, 3)) (hl : Cond.methodLink (ze_own E) idx y ∈ zm_g) (hy : zm_yv y K 4) (hh : zk_h K + 1 ≤ ze_h E) (hmc : zk_mc K = 0) (hn : ze_n0 E = 190) (hs : sO id ci) (hci : ci < 13) (hc : zm_C ci = y.cls) (hw : (st.map fun v => v.category).sum ≤ 8) (k : Cl y K (.ref id :: [a1, a2, a3, a4]) (gM I J) (fun r m' => Wp E Q (pc + 3) lv (r.toList ++ st) m')) : Wp E Q pc lv (a4 :: a3 :: a2 :: a1 :: .ref id :: st) (gM I J) := w_callV (as := [a1, a2, a3, a4]) hdg hl hy hh rfl rfl hs.1 hs.2 hci hc hw (by rw [hmc, hn]; exact Nat.le_add_right _ _) k
theorem v_callS4 {idx : Nat} {y : MethodName} {K : zK} {a1 a2 a3 a4 : Value} (hdg : decode (ze_cc E) pc = .ok (.invokestatic idx, 3)) (hl : Cond.methodLink (ze_own E) idx y ∈ zm_g) (hy : zm_ys y K 4) (hh : zk_h K + 1 ≤ ze_h E) (hmc : zk_mc K = 0) (hn : ze_n0 E = 190) (hw : (st.map fun v => v.category).sum ≤ 8) (k : Cl y K [a1, a2, a3, a4] (gM I J) (fun r m' => Wp E Q (pc + 3) lv (r.toList ++ st) m')) : Wp E Q pc lv (a4 :: a3 :: a2 :: a1 :: st) (gM I J) := w_callS (as := [a1, a2, a3, a4]) hdg hl hy hh rfl rfl hw (by rw [hmc, hn]; exact Nat.le_add_right _ _) k
theorem v_callV5 {idx id ci : Nat} {y : MethodName} {K : zK} {a1 a2 a3 a4 a5 : Value} (hdg : decode (ze_cc E) pc = .ok (.invokevirtual idx, 3)) (hl : Cond.methodLink (ze_own E) idx y ∈ zm_g) (hy : zm_yv y K 5) (hh : zk_h K + 1 ≤ ze_h E) (hmc : zk_mc K = 0) (hn : ze_n0 E = 190) (hs : sO id ci) (hci : ci < 13) (hc : zm_C ci = y.cls) (hw : (st.map fun v => v.category).sum ≤ 8) (k : Cl y K (.ref id :: [a1, a2, a3, a4, a5]) (gM I J) (fun r m' => Wp E Q (pc + 3) lv (r.toList ++ st) m')) : Wp E Q pc lv (a5 :: a4 :: a3 :: a2 :: a1 :: .ref id :: st) (gM I J) := w_callV (as := [a1, a2, a3, a4, a5]) hdg hl hy hh rfl rfl hs.1 hs.2 hci hc hw (by rw [hmc, hn]; exact Nat.le_add_right _ _) k
theorem v_callS5 {idx : Nat} {y : MethodName} {K : zK} {a1 a2 a3 a4 a5 : Value} (hdg : decode (ze_cc E) pc = .ok (.invokestatic idx, 3)) (hl : Cond.methodLink (ze_own E) idx y ∈ zm_g) (hy : zm_ys y K 5) (hh : zk_h K + 1 ≤ ze_h E) (hmc : zk_mc K = 0) (hn : ze_n0 E = 190) (hw : (st.map fun v => v.category).sum ≤ 8) (k : Cl y K [a1, a2, a3, a4, a5] (gM I J) (fun r m' => Wp E Q (pc + 3) lv (r.toList ++ st) m')) : Wp E Q pc lv (a5 :: a4 :: a3 :: a2 :: a1 :: st) (gM I J) := w_callS (as := [a1, a2, a3, a4, a5]) hdg hl hy hh rfl rfl hw (by rw [hmc, hn]; exact Nat.le_add_right _ _) k
theorem v_callV6 {idx id ci : Nat} {y : MethodName} {K : zK} {a1 a2 a3 a4 a5 a6 : Value} (hdg : decode (ze_cc E) pc = .ok (.invokevirtual idx, 3)) (hl : Cond.methodLink (ze_own E) idx y ∈ zm_g) (hy : zm_yv y K 6) (hh : zk_h K + 1 ≤ ze_h E) (hmc : zk_mc K = 0) (hn : ze_n0 E = 190) (hs : sO id ci) (hci : ci < 13) (hc : zm_C ci = y.cls) (hw : (st.map fun v => v.category).sum ≤ 8) (k : Cl y K (.ref id :: [a1, a2, a3, a4, a5, a6]) (gM I J) (fun r m' => Wp E Q (pc + 3) lv (r.toList ++ st) m')) : Wp E Q pc lv (a6 :: a5 :: a4 :: a3 :: a2 :: a1 :: .ref id :: st) (gM I J) := w_callV (as := [a1, a2, a3, a4, a5, a6]) hdg hl hy hh rfl rfl hs.1 hs.2 hci hc hw (by rw [hmc, hn]; exact Nat.le_add_right _ _) k
theorem v_callS6 {idx : Nat} {y : MethodName} {K : zK} {a1 a2 a3 a4 a5 a6 : Value} (hdg : decode (ze_cc E) pc = .ok (.invokestatic idx, 3)) (hl : Cond.methodLink (ze_own E) idx y ∈ zm_g) (hy : zm_ys y K 6) (hh : zk_h K + 1 ≤ ze_h E) (hmc : zk_mc K = 0) (hn : ze_n0 E = 190) (hw : (st.map fun v => v.category).sum ≤ 8) (k : Cl y K [a1, a2, a3, a4, a5, a6] (gM I J) (fun r m' => Wp E Q (pc + 3) lv (r.toList ++ st) m')) : Wp E Q pc lv (a6 :: a5 :: a4 :: a3 :: a2 :: a1 :: st) (gM I J) := w_callS (as := [a1, a2, a3, a4, a5, a6]) hdg hl hy hh rfl rfl hw (by rw [hmc, hn]; exact Nat.le_add_right _ _) k
end VR
/-- a method's contract out of its walk, when all is made -/
theorem cl_s {y : MethodName} {K : zK} {as : List Value} {I : Nat → Nat → Int32} {J : Nat → Nat → Int64} {F : Option Value → zM → Prop} (hpl : plainName y.cls = true) (hh : 1 ≤ zk_h K) (hlen : (lg_sl as).length ≤ K.2.1) (hret : ∀ t, K.2.2.1 = some t → t = .int ∨ t = .boolean ∨ ∃ C, t = .object C) (k : Wp (sE K y.cls) F 0 (lv_args 0 as) [] (gM I J)) : Cl y K as (gM I J) F := cl_of false (fun q => by cases q) hpl hh hlen hret k
theorem rt_i : ∀ t, (some FieldType.int) = some t → t = .int ∨ t = .boolean ∨ ∃ C, t = .object C := fun t h => Or.inl (Option.some.inj h).symm
theorem rt_z : ∀ t, (some FieldType.boolean) = some t → t = .int ∨ t = .boolean ∨ ∃ C, t = .object C := fun t h => Or.inr (Or.inl (Option.some.inj h).symm)
theorem rt_v : ∀ t, (none : Option FieldType) = some t → t = .int ∨ t = .boolean ∨ ∃ C, t = .object C := fun t h => by cases h
theorem rt_o (D : String) : ∀ t, (some (FieldType.object D)) = some t → t = .int ∨ t = .boolean ∨ ∃ C, t = .object C := fun t h => Or.inr (Or.inr ⟨D, (Option.some.inj h).symm⟩)
end
section
/-! small things of both sides -/
abbrev isLt (s : Int) : Prop := 97 ≤ s ∧ s ≤ 122
abbrev isTx (s : Int) : Prop := s = 46 ∨ (97 ≤ s ∧ s ≤ 122)
abbrev inS (r c : Int) : Prop := 0 ≤ r ∧ r < 16 ∧ 0 ≤ c ∧ c < 32
theorem x8_isInside {I : Nat → Nat → Int32} {J : Nat → Nat → Int64} {F : Option Value → zM → Prop} {r c : Int} (br : -2147483648 ≤ r ∧ r < 2147483648) (bc : -2147483648 ≤ c ∧ c < 2147483648) (ht : inS r c → F (some (.int (iI 1))) (gM I J)) (hf : ¬ (inS r c) → F (some (.int (iI 0))) (gM I J)) : Cl yX8_isInside kX8_isInside [.int (iI r), .int (iI c)] (gM I J) F := by
  refine cl_s (by decide) (by decide) (Nat.le_of_ble_eq_true rfl) rt_z ?_
  show Wp _ F 0 [(0, .int (iI r)), (1, .int (iI c))] [] _
  refine w_iload_n dX8_isInside_0 rfl ?_
  refine v_if_lt 24 dX8_isInside_1 (by decide) (by omega) (fun c1 => ?_) (fun c1 => ?_)
  · refine w_iconst (v := iI 0) dX8_isInside_24 rfl ?_
    refine v_zret dX8_isInside_25 rfl ⟨rfl, rfl⟩ (by decide) ?_
    first | exact ht (by omega) | exact hf (by omega)
  · refine w_iload_n dX8_isInside_4 rfl ?_
    refine w_bipush (v := iI 16) dX8_isInside_5 (by decide) ?_
    refine v_icmp_ge 24 dX8_isInside_7 (by decide) (by omega) (by omega) (fun c7 => ?_) (fun c7 => ?_)
    · refine w_iconst (v := iI 0) dX8_isInside_24 rfl ?_
      refine v_zret dX8_isInside_25 rfl ⟨rfl, rfl⟩ (by decide) ?_
      first | exact ht (by omega) | exact hf (by omega)
    · refine w_iload_n dX8_isInside_10 rfl ?_
      refine v_if_lt 24 dX8_isInside_11 (by decide) (by omega) (fun c11 => ?_) (fun c11 => ?_)
      · refine w_iconst (v := iI 0) dX8_isInside_24 rfl ?_
        refine v_zret dX8_isInside_25 rfl ⟨rfl, rfl⟩ (by decide) ?_
        first | exact ht (by omega) | exact hf (by omega)
      · refine w_iload_n dX8_isInside_14 rfl ?_
        refine w_bipush (v := iI 32) dX8_isInside_15 (by decide) ?_
        refine v_icmp_ge 24 dX8_isInside_17 (by decide) (by omega) (by omega) (fun c17 => ?_) (fun c17 => ?_)
        · refine w_iconst (v := iI 0) dX8_isInside_24 rfl ?_
          refine v_zret dX8_isInside_25 rfl ⟨rfl, rfl⟩ (by decide) ?_
          first | exact ht (by omega) | exact hf (by omega)
        · refine w_iconst (v := iI 1) dX8_isInside_20 rfl ?_
          refine w_goto 25 dX8_isInside_21 (by decide) ?_
          refine v_zret dX8_isInside_25 rfl ⟨rfl, rfl⟩ (by decide) ?_
          first | exact ht (by omega) | exact hf (by omega)
theorem x11_isText {I : Nat → Nat → Int32} {J : Nat → Nat → Int64} {F : Option Value → zM → Prop} {s : Int} (bs : -2147483648 ≤ s ∧ s < 2147483648) (ht : isTx s → F (some (.int (iI 1))) (gM I J)) (hf : ¬ (isTx s) → F (some (.int (iI 0))) (gM I J)) : Cl yX11_isText kX11_isText [.int (iI s)] (gM I J) F := by
  refine cl_s (by decide) (by decide) (Nat.le_of_ble_eq_true rfl) rt_z ?_
  show Wp _ F 0 [(0, .int (iI s))] [] _
  refine w_iload_n dX11_isText_0 rfl ?_
  refine w_bipush (v := iI 46) dX11_isText_1 (by decide) ?_
  refine v_icmp_eq 18 dX11_isText_3 (by decide) (by omega) (by omega) (fun c3 => ?_) (fun c3 => ?_)
  · refine w_iconst (v := iI 1) dX11_isText_18 rfl ?_
    refine w_goto 23 dX11_isText_19 (by decide) ?_
    refine v_zret dX11_isText_23 rfl ⟨rfl, rfl⟩ (by decide) ?_
    first | exact ht (by omega) | exact hf (by omega)
  · refine w_iload_n dX11_isText_6 rfl ?_
    refine w_bipush (v := iI 97) dX11_isText_7 (by decide) ?_
    refine v_icmp_lt 22 dX11_isText_9 (by decide) (by omega) (by omega) (fun c9 => ?_) (fun c9 => ?_)
    · refine w_iconst (v := iI 0) dX11_isText_22 rfl ?_
      refine v_zret dX11_isText_23 rfl ⟨rfl, rfl⟩ (by decide) ?_
      first | exact ht (by omega) | exact hf (by omega)
    · refine w_iload_n dX11_isText_12 rfl ?_
      refine w_bipush (v := iI 122) dX11_isText_13 (by decide) ?_
      refine v_icmp_gt 22 dX11_isText_15 (by decide) (by omega) (by omega) (fun c15 => ?_) (fun c15 => ?_)
      · refine w_iconst (v := iI 0) dX11_isText_22 rfl ?_
        refine v_zret dX11_isText_23 rfl ⟨rfl, rfl⟩ (by decide) ?_
        first | exact ht (by omega) | exact hf (by omega)
      · refine w_iconst (v := iI 1) dX11_isText_18 rfl ?_
        refine w_goto 23 dX11_isText_19 (by decide) ?_
        refine v_zret dX11_isText_23 rfl ⟨rfl, rfl⟩ (by decide) ?_
        first | exact ht (by omega) | exact hf (by omega)
theorem x11_isLetter {I : Nat → Nat → Int32} {J : Nat → Nat → Int64} {F : Option Value → zM → Prop} {s : Int} (bs : -2147483648 ≤ s ∧ s < 2147483648) (ht : isLt s → F (some (.int (iI 1))) (gM I J)) (hf : ¬ (isLt s) → F (some (.int (iI 0))) (gM I J)) : Cl yX11_isLetter kX11_isLetter [.int (iI s)] (gM I J) F := by
  refine cl_s (by decide) (by decide) (Nat.le_of_ble_eq_true rfl) rt_z ?_
  show Wp _ F 0 [(0, .int (iI s))] [] _
  refine w_iload_n dX11_isLetter_0 rfl ?_
  refine w_bipush (v := iI 97) dX11_isLetter_1 (by decide) ?_
  refine v_icmp_lt 16 dX11_isLetter_3 (by decide) (by omega) (by omega) (fun c3 => ?_) (fun c3 => ?_)
  · refine w_iconst (v := iI 0) dX11_isLetter_16 rfl ?_
    refine v_zret dX11_isLetter_17 rfl ⟨rfl, rfl⟩ (by decide) ?_
    first | exact ht (by omega) | exact hf (by omega)
  · refine w_iload_n dX11_isLetter_6 rfl ?_
    refine w_bipush (v := iI 122) dX11_isLetter_7 (by decide) ?_
    refine v_icmp_gt 16 dX11_isLetter_9 (by decide) (by omega) (by omega) (fun c9 => ?_) (fun c9 => ?_)
    · refine w_iconst (v := iI 0) dX11_isLetter_16 rfl ?_
      refine v_zret dX11_isLetter_17 rfl ⟨rfl, rfl⟩ (by decide) ?_
      first | exact ht (by omega) | exact hf (by omega)
    · refine w_iconst (v := iI 1) dX11_isLetter_12 rfl ?_
      refine w_goto 17 dX11_isLetter_13 (by decide) ?_
      refine v_zret dX11_isLetter_17 rfl ⟨rfl, rfl⟩ (by decide) ?_
      first | exact ht (by omega) | exact hf (by omega)
theorem x11_isWidth {I : Nat → Nat → Int32} {J : Nat → Nat → Int64} {F : Option Value → zM → Prop} {w : Int} (bw : -2147483648 ≤ w ∧ w < 2147483648) (ht : 2 ≤ w ∧ w ≤ 60 → F (some (.int (iI 1))) (gM I J)) (hf : ¬ (2 ≤ w ∧ w ≤ 60) → F (some (.int (iI 0))) (gM I J)) : Cl yX11_isWidth kX11_isWidth [.int (iI w)] (gM I J) F := by
  refine cl_s (by decide) (by decide) (Nat.le_of_ble_eq_true rfl) rt_z ?_
  show Wp _ F 0 [(0, .int (iI w))] [] _
  refine w_iload_n dX11_isWidth_0 rfl ?_
  refine w_iconst (v := iI 2) dX11_isWidth_1 rfl ?_
  refine v_icmp_lt 15 dX11_isWidth_2 (by decide) (by omega) (by omega) (fun c2 => ?_) (fun c2 => ?_)
  · refine w_iconst (v := iI 0) dX11_isWidth_15 rfl ?_
    refine v_zret dX11_isWidth_16 rfl ⟨rfl, rfl⟩ (by decide) ?_
    first | exact ht (by omega) | exact hf (by omega)
  · refine w_iload_n dX11_isWidth_5 rfl ?_
    refine w_bipush (v := iI 60) dX11_isWidth_6 (by decide) ?_
    refine v_icmp_gt 15 dX11_isWidth_8 (by decide) (by omega) (by omega) (fun c8 => ?_) (fun c8 => ?_)
    · refine w_iconst (v := iI 0) dX11_isWidth_15 rfl ?_
      refine v_zret dX11_isWidth_16 rfl ⟨rfl, rfl⟩ (by decide) ?_
      first | exact ht (by omega) | exact hf (by omega)
    · refine w_iconst (v := iI 1) dX11_isWidth_11 rfl ?_
      refine w_goto 16 dX11_isWidth_12 (by decide) ?_
      refine v_zret dX11_isWidth_16 rfl ⟨rfl, rfl⟩ (by decide) ?_
      first | exact ht (by omega) | exact hf (by omega)
theorem x12_isIn {I : Nat → Nat → Int32} {J : Nat → Nat → Int64} {F : Option Value → zM → Prop} {v a c : Int} (bv : -2147483648 ≤ v ∧ v < 2147483648) (ba : -2147483648 ≤ a ∧ a < 2147483648) (bc : -2147483648 ≤ c ∧ c < 2147483648) (ht : a ≤ v ∧ v ≤ c → F (some (.int (iI 1))) (gM I J)) (hf : ¬ (a ≤ v ∧ v ≤ c) → F (some (.int (iI 0))) (gM I J)) : Cl yX12_isIn kX12_isIn [.int (iI v), .int (iI a), .int (iI c)] (gM I J) F := by
  refine cl_s (by decide) (by decide) (Nat.le_of_ble_eq_true rfl) rt_z ?_
  show Wp _ F 0 [(0, .int (iI v)), (1, .int (iI a)), (2, .int (iI c))] [] _
  refine w_iload_n dX12_isIn_0 rfl ?_
  refine w_iload_n dX12_isIn_1 rfl ?_
  refine v_icmp_lt 14 dX12_isIn_2 (by decide) (by omega) (by omega) (fun c2 => ?_) (fun c2 => ?_)
  · refine w_iconst (v := iI 0) dX12_isIn_14 rfl ?_
    refine v_zret dX12_isIn_15 rfl ⟨rfl, rfl⟩ (by decide) ?_
    first | exact ht (by omega) | exact hf (by omega)
  · refine w_iload_n dX12_isIn_5 rfl ?_
    refine w_iload_n dX12_isIn_6 rfl ?_
    refine v_icmp_gt 14 dX12_isIn_7 (by decide) (by omega) (by omega) (fun c7 => ?_) (fun c7 => ?_)
    · refine w_iconst (v := iI 0) dX12_isIn_14 rfl ?_
      refine v_zret dX12_isIn_15 rfl ⟨rfl, rfl⟩ (by decide) ?_
      first | exact ht (by omega) | exact hf (by omega)
    · refine w_iconst (v := iI 1) dX12_isIn_10 rfl ?_
      refine w_goto 15 dX12_isIn_11 (by decide) ?_
      refine v_zret dX12_isIn_15 rfl ⟨rfl, rfl⟩ (by decide) ?_
      first | exact ht (by omega) | exact hf (by omega)
theorem x12_isLetter {I : Nat → Nat → Int32} {J : Nat → Nat → Int64} {F : Option Value → zM → Prop} {s : Int} (bs : -2147483648 ≤ s ∧ s < 2147483648) (ht : isLt s → F (some (.int (iI 1))) (gM I J)) (hf : ¬ (isLt s) → F (some (.int (iI 0))) (gM I J)) : Cl yX12_isLetter kX12_isLetter [.int (iI s)] (gM I J) F := by
  refine cl_s (by decide) (by decide) (Nat.le_of_ble_eq_true rfl) rt_z ?_
  show Wp _ F 0 [(0, .int (iI s))] [] _
  refine w_iload_n dX12_isLetter_0 rfl ?_
  refine w_bipush (v := iI 97) dX12_isLetter_1 (by decide) ?_
  refine v_icmp_lt 16 dX12_isLetter_3 (by decide) (by omega) (by omega) (fun c3 => ?_) (fun c3 => ?_)
  · refine w_iconst (v := iI 0) dX12_isLetter_16 rfl ?_
    refine v_zret dX12_isLetter_17 rfl ⟨rfl, rfl⟩ (by decide) ?_
    first | exact ht (by omega) | exact hf (by omega)
  · refine w_iload_n dX12_isLetter_6 rfl ?_
    refine w_bipush (v := iI 122) dX12_isLetter_7 (by decide) ?_
    refine v_icmp_gt 16 dX12_isLetter_9 (by decide) (by omega) (by omega) (fun c9 => ?_) (fun c9 => ?_)
    · refine w_iconst (v := iI 0) dX12_isLetter_16 rfl ?_
      refine v_zret dX12_isLetter_17 rfl ⟨rfl, rfl⟩ (by decide) ?_
      first | exact ht (by omega) | exact hf (by omega)
    · refine w_iconst (v := iI 1) dX12_isLetter_12 rfl ?_
      refine w_goto 17 dX12_isLetter_13 (by decide) ?_
      refine v_zret dX12_isLetter_17 rfl ⟨rfl, rfl⟩ (by decide) ?_
      first | exact ht (by omega) | exact hf (by omega)
def sgAt (I : Nat → Nat → Int32) (r c : Int) : Int := if inS r c then rd I 143 (r * 32 + c).toNat else 95
def owAt (I : Nat → Nat → Int32) (r c : Int) : Int := if inS r c then rd I 144 (r * 32 + c).toNat else -1
theorem x8_signAt {I : Nat → Nat → Int32} {J : Nat → Nat → Int64} {F : Option Value → zM → Prop} {r c : Int} (br : -2147483648 ≤ r ∧ r < 2147483648) (bc : -2147483648 ≤ c ∧ c < 2147483648) (h : ∀ z : Int, z = sgAt I r c → -2147483648 ≤ z ∧ z < 2147483648 → F (some (.int (iI z))) (gM I J)) : Cl yX8_signAt kX8_signAt [.ref 142, .int (iI r), .int (iI c)] (gM I J) F := by
  refine cl_s (by decide) (by decide) (Nat.le_of_ble_eq_true rfl) rt_i ?_
  show Wp _ F 0 [(0, .ref 142), (1, .int (iI r)), (2, .int (iI c))] [] _
  refine w_iload_n dX8_signAt_0 rfl ?_
  refine v_if_lt 20 dX8_signAt_1 (by decide) (by omega) (fun c1 => ?_) (fun c1 => ?_)
  · refine w_bipush (v := iI 95) dX8_signAt_20 (by decide) ?_
    refine v_iret dX8_signAt_22 rfl ⟨rfl, rfl⟩ ?_
    exact h 95 (by rw [sgAt, if_neg (by omega)]) (by decide)
  · refine w_iload_n dX8_signAt_4 rfl ?_
    refine w_bipush (v := iI 16) dX8_signAt_5 (by decide) ?_
    refine v_icmp_ge 20 dX8_signAt_7 (by decide) (by omega) (by omega) (fun c7 => ?_) (fun c7 => ?_)
    · refine w_bipush (v := iI 95) dX8_signAt_20 (by decide) ?_
      refine v_iret dX8_signAt_22 rfl ⟨rfl, rfl⟩ ?_
      exact h 95 (by rw [sgAt, if_neg (by omega)]) (by decide)
    · refine w_iload_n dX8_signAt_10 rfl ?_
      refine v_if_lt 20 dX8_signAt_11 (by decide) (by omega) (fun c11 => ?_) (fun c11 => ?_)
      · refine w_bipush (v := iI 95) dX8_signAt_20 (by decide) ?_
        refine v_iret dX8_signAt_22 rfl ⟨rfl, rfl⟩ ?_
        exact h 95 (by rw [sgAt, if_neg (by omega)]) (by decide)
      · refine w_iload_n dX8_signAt_14 rfl ?_
        refine w_bipush (v := iI 32) dX8_signAt_15 (by decide) ?_
        refine v_icmp_lt 23 dX8_signAt_17 (by decide) (by omega) (by omega) (fun c17 => ?_) (fun c17 => ?_)
        · refine w_aload_n dX8_signAt_23 rfl ?_
          refine v_getR (j := 143) dX8_signAt_24 fX8_9 ⟨by decide, rfl⟩ rfl rfl ?_
          refine w_iload_n dX8_signAt_27 rfl ?_
          refine w_bipush (v := iI 32) dX8_signAt_28 (by decide) ?_
          refine v_imul dX8_signAt_30 ?_
          refine w_iload_n dX8_signAt_31 rfl ?_
          refine v_iadd dX8_signAt_32 ?_
          refine v_iald dX8_signAt_33 ⟨by decide, rfl⟩ (by omega) (by omega) (by decide) (fun z33 e33 b33 => ?_)
          refine v_iret dX8_signAt_34 rfl ⟨rfl, rfl⟩ ?_
          exact h _ (by rw [sgAt, if_pos (by omega)]; exact e33) b33
        · refine w_bipush (v := iI 95) dX8_signAt_20 (by decide) ?_
          refine v_iret dX8_signAt_22 rfl ⟨rfl, rfl⟩ ?_
          exact h 95 (by rw [sgAt, if_neg (by omega)]) (by decide)
end
section
/-- the locals below a number -/
def z_keep (n : Nat) : List (Nat × Value) → List (Nat × Value)
  | [] => []
  | q :: t => cond (Nat.blt q.1 n) (q :: z_keep n t) (z_keep n t)
theorem z_keep_mem {n : Nat} : ∀ {lv : List (Nat × Value)} {x : Nat × Value}, x ∈ z_keep n lv → x ∈ lv
  | [], _, h => h
  | q :: t, x, h => by
    unfold z_keep at h
    cases e : Nat.blt q.1 n with
    | true =>
      rw [e] at h
      exact (List.mem_cons.mp h).elim (fun g => g ▸ List.mem_cons_self) (fun g => List.mem_cons_of_mem _ (z_keep_mem g))
    | false =>
      rw [e] at h
      exact List.mem_cons_of_mem _ (z_keep_mem h)
theorem w_keep {E : zE} {Q : Option Value → zM → Prop} {pc : Nat} {lv : List (Nat × Value)} {st : List Value} {m : zM} (n : Nat) (k : Wp E Q pc (z_keep n lv) st m) : Wp E Q pc lv st m := by
  intro p l e R s mi args below meth c D ca A b Z hA ad H locs ls h1 h2 h3 h4 h5 h6 h7
  refine k p l e R s mi args below meth c D ca A b Z hA ad H locs ls h1 h2 h3 (fun q hq => h4 q (z_keep_mem hq)) h5 h6 ⟨h7.1, h7.2.1, fun q hq => ?_⟩
  obtain ⟨x, hx, rfl⟩ := List.mem_map.mp hq
  exact h7.2.2 _ (List.mem_map.mpr ⟨x, z_keep_mem hx, rfl⟩)
/-! Fibres, Lanes -/
/-- I' is I but in the cells of which S speaks -/
def fr (S : Nat → Prop) (I I' : Nat → Nat → Int32) : Prop := ∀ id k, ¬ S id → rd I' id k = rd I id k
/-- a FIBRE that counts: numbers in cell u, reached in cell v, n of them -/
def tF (I : Nat → Nat → Int32) (u v : Nat) (n i : Int) : Int := if 0 ≤ i ∧ i < n ∧ rd I v i.toNat ≠ 0 then rd I u i.toNat else 0
theorem tF_bd (I : Nat → Nat → Int32) (u v : Nat) (n i : Int) : -2147483648 ≤ tF I u v n i ∧ tF I u v n i < 2147483648 := by
  unfold tF
  split
  · exact rd_bd I u i.toNat
  · decide
def wbC (f g : Nat → Int) : Nat → Int
  | 0 => 0
  | n + 1 => wbC f g n + (if f n ≠ 0 ∧ g n ≠ 0 then 2 else 0)
theorem x1_told_a {I : Nat → Nat → Int32} {J : Nat → Nat → Int64} {F : Option Value → zM → Prop} {b : Nat} (hb : b < 10) {i : Int} (bi : -2147483648 ≤ i ∧ i < 2147483648) (h : ∀ z : Int, z = tF I (bI b 7) (bI b 8) 5 i → -2147483648 ≤ z ∧ z < 2147483648 → F (some (.int (iI z))) (gM I J)) : Cl yX1_told kX1_told [.ref (bI b 6), .int (iI i)] (gM I J) F := by
  refine cl_s (by decide) (by decide) (Nat.le_of_ble_eq_true rfl) rt_i ?_
  show Wp _ F 0 [(0, .ref (bI b 6)), (1, .int (iI i))] [] _
  refine w_iload_n dX1_told_0 rfl ?_
  refine v_if_lt 13 dX1_told_1 (by decide) (by omega) (fun c1 => ?_) (fun c1 => ?_)
  · refine w_iconst (v := iI 0) dX1_told_13 rfl ?_
    refine v_iret dX1_told_14 rfl ⟨rfl, rfl⟩ ?_
    exact h 0 (by unfold tF; rw [if_neg (by omega)]) (by decide)
  · refine w_iload_n dX1_told_4 rfl ?_
    refine w_aload_n dX1_told_5 rfl ?_
    refine v_getR (j := bI b 7) dX1_told_6 fX1_9 (sO_b hb (by decide) rfl) rfl (r0_b hb (by decide)) ?_
    refine v_alen0 dX1_told_9 (sA_b hb (by decide) rfl) ?_
    refine v_icmp_lt 15 dX1_told_10 (by decide) (by omega) (by omega) (fun c10 => ?_) (fun c10 => ?_)
    · refine w_aload_n dX1_told_15 rfl ?_
      refine v_getR (j := bI b 8) dX1_told_16 fX1_15 (sO_b hb (by decide) rfl) rfl (r0_b hb (by decide)) ?_
      refine w_iload_n dX1_told_19 rfl ?_
      refine v_zald dX1_told_20 (sA_b hb (by decide) rfl) (by omega) (by omega) (by decide) (fun z20 e20 b20 => ?_)
      refine v_if_eq 33 dX1_told_21 (by decide) (by omega) (fun c21 => ?_) (fun c21 => ?_)
      · refine w_iconst (v := iI 0) dX1_told_33 rfl ?_
        refine v_iret dX1_told_34 rfl ⟨rfl, rfl⟩ ?_
        first | exact h _ (by unfold tF; rw [if_pos (by rw [← e20]; omega)]; exact e29) b29 | exact h 0 (by unfold tF; rw [if_neg (by rw [← e20]; omega)]) (by decide)
      · refine w_aload_n dX1_told_24 rfl ?_
        refine v_getR (j := bI b 7) dX1_told_25 fX1_9 (sO_b hb (by decide) rfl) rfl (r0_b hb (by decide)) ?_
        refine w_iload_n dX1_told_28 rfl ?_
        refine v_iald dX1_told_29 (sA_b hb (by decide) rfl) (by omega) (by omega) (by decide) (fun z29 e29 b29 => ?_)
        refine w_goto 34 dX1_told_30 (by decide) ?_
        refine v_iret dX1_told_34 rfl ⟨rfl, rfl⟩ ?_
        first | exact h _ (by unfold tF; rw [if_pos (by rw [← e20]; omega)]; exact e29) b29 | exact h 0 (by unfold tF; rw [if_neg (by rw [← e20]; omega)]) (by decide)
    · refine w_iconst (v := iI 0) dX1_told_13 rfl ?_
      refine v_iret dX1_told_14 rfl ⟨rfl, rfl⟩ ?_
      exact h 0 (by unfold tF; rw [if_neg (by omega)]) (by decide)
theorem x1_clear_a_l {I : Nat → Nat → Int32} {J : Nat → Nat → Int64} {F : Option Value → zM → Prop} {b : Nat} (hb : b < 10) (h : ∀ I', (∀ id k, rd I' id k = if (id = (bI b 7) ∨ id = (bI b 8)) ∧ k < 5 then 0 else rd I id k) → F none (gM I' J)) : ∀ (n k : Nat) (I' : Nat → Nat → Int32), 5 - k < n → k ≤ 5 → (∀ id j, rd I' id j = if (id = (bI b 7) ∨ id = (bI b 8)) ∧ j < k then 0 else rd I id j) → Wp (sE kX1_clear RX1) F 2 [(0, .ref (bI b 6)), (1, .int (iI (k : Int)))] [] (gM I' J) := by
  intro n
  induction n with
  | zero => intro k I' hn hk hI; omega
  | succ n ih =>
    intro k I' hn hk hI
    refine w_iload_n dX1_clear_2 rfl ?_
    refine w_aload_n dX1_clear_3 rfl ?_
    refine v_getR (j := bI b 7) dX1_clear_4 fX1_9 (sO_b hb (by decide) rfl) rfl (r0_b hb (by decide)) ?_
    refine v_alen0 dX1_clear_7 (sA_b hb (by decide) rfl) ?_
    refine v_icmp_ge 31 dX1_clear_8 (by decide) (by omega) (by omega) (fun c8 => ?_) (fun c8 => ?_)
    · refine v_vret dX1_clear_31 rfl ⟨rfl, rfl⟩ ?_
      exact h I' (fun id j => by have hk2 : k = 5 := (by omega); rw [hI id j, hk2])
    · refine w_aload_n dX1_clear_11 rfl ?_
      refine v_getR (j := bI b 7) dX1_clear_12 fX1_9 (sO_b hb (by decide) rfl) rfl (r0_b hb (by decide)) ?_
      refine w_iload_n dX1_clear_15 rfl ?_
      refine w_iconst (v := iI 0) dX1_clear_16 rfl ?_
      refine v_iast dX1_clear_17 (sA_b hb (by decide) rfl) (by omega) (by omega) (by decide) ?_
      refine w_aload_n dX1_clear_18 rfl ?_
      refine v_getR (j := bI b 8) dX1_clear_19 fX1_15 (sO_b hb (by decide) rfl) rfl (r0_b hb (by decide)) ?_
      refine w_iload_n dX1_clear_22 rfl ?_
      refine w_iconst (v := iI 0) dX1_clear_23 rfl ?_
      refine v_zast dX1_clear_24 (sA_b hb (by decide) rfl) (by omega) (by omega) (by decide) (by decide) ?_
      refine v_iinc dX1_clear_25 rfl rfl rfl ?_
      refine w_goto 2 dX1_clear_28 (by decide) ?_
      refine ih (k + 1) _ (by omega) (by omega) (fun id j => ?_)
      rw [rd_wr (by omega) (by omega), rd_wr (by omega) (by omega), hI id j]
      simp only [Int.toNat_natCast]
      have hne : (bI b 7) ≠ (bI b 8) := by unfold bI; omega
      by_cases h1 : id = (bI b 7)
      · subst h1
        by_cases h3 : j = k
        · simp [h3, hne]
        · by_cases h4 : j < k
          · simp [h3, h4, hne, Nat.lt_succ_of_lt h4]
          · simp [h3, h4, hne, show ¬ j < k + 1 by omega]
      · by_cases h2 : id = (bI b 8)
        · subst h2
          by_cases h3 : j = k
          · simp [h3]
          · by_cases h4 : j < k
            · simp [h3, h4, Nat.lt_succ_of_lt h4]
            · simp [h3, h4, show ¬ j < k + 1 by omega]
        · simp [h1, h2]
theorem x1_clear_a {I : Nat → Nat → Int32} {J : Nat → Nat → Int64} {F : Option Value → zM → Prop} {b : Nat} (hb : b < 10) (h : ∀ I', (∀ id k, rd I' id k = if (id = (bI b 7) ∨ id = (bI b 8)) ∧ k < 5 then 0 else rd I id k) → F none (gM I' J)) : Cl yX1_clear kX1_clear [.ref (bI b 6)] (gM I J) F := by
  refine cl_s (by decide) (by decide) (Nat.le_of_ble_eq_true rfl) rt_v ?_
  show Wp _ F 0 [(0, .ref (bI b 6))] [] _
  refine w_iconst (v := iI 0) dX1_clear_0 rfl ?_
  refine w_istore_n dX1_clear_1 rfl rfl ?_
  exact x1_clear_a_l hb h 6 0 I (by omega) (by omega) (fun id j => by simp)
theorem x1_worthBeside_a_l {I : Nat → Nat → Int32} {J : Nat → Nat → Int64} {F : Option Value → zM → Prop} {b : Nat} (hb : b < 10) {g : Nat} (hg : g < 10) {sh : Int} (hsh : -1000 ≤ sh ∧ sh ≤ 1000) (hq : (∃ j : Nat, j < 5 ∧ (tF I (bI b 7) (bI b 8) 5 (j : Int) ≠ 0 ∧ tF I (bI g 7) (bI g 8) 5 ((j : Int) - sh) ≠ 0 ∧ tF I (bI b 7) (bI b 8) 5 (j : Int) ≠ tF I (bI g 7) (bI g 8) 5 ((j : Int) - sh))) → F (some (.int (iI (-1)))) (gM I J)) (hs : (∀ j : Nat, j < 5 → ¬ (tF I (bI b 7) (bI b 8) 5 (j : Int) ≠ 0 ∧ tF I (bI g 7) (bI g 8) 5 ((j : Int) - sh) ≠ 0 ∧ tF I (bI b 7) (bI b 8) 5 (j : Int) ≠ tF I (bI g 7) (bI g 8) 5 ((j : Int) - sh))) → F (some (.int (iI (wbC (fun j : Nat => tF I (bI b 7) (bI b 8) 5 (j : Int)) (fun j : Nat => tF I (bI g 7) (bI g 8) 5 ((j : Int) - sh)) 5)))) (gM I J)) : ∀ (n k : Nat) (acc : Int), 5 - k < n → k ≤ 5 → acc = wbC (fun j : Nat => tF I (bI b 7) (bI b 8) 5 (j : Int)) (fun j : Nat => tF I (bI g 7) (bI g 8) 5 ((j : Int) - sh)) k → (∀ j : Nat, j < k → ¬ (tF I (bI b 7) (bI b 8) 5 (j : Int) ≠ 0 ∧ tF I (bI g 7) (bI g 8) 5 ((j : Int) - sh) ≠ 0 ∧ tF I (bI b 7) (bI b 8) 5 (j : Int) ≠ tF I (bI g 7) (bI g 8) 5 ((j : Int) - sh))) → Wp (sE kX1_worthBeside RX1) F 5 [(0, .ref (bI b 6)), (1, .ref (bI g 6)), (2, .int (iI sh)), (3, .int (iI acc)), (4, .int (iI (k : Int)))] [] (gM I J) := by
  intro n
  induction n with
  | zero => intro k acc hn hk ha hno; omega
  | succ n ih =>
    intro k acc hn hk ha hno
    refine w_iload dX1_worthBeside_5 rfl ?_
    refine w_aload_n dX1_worthBeside_7 rfl ?_
    refine v_getR (j := bI b 7) dX1_worthBeside_8 fX1_9 (sO_b hb (by decide) rfl) rfl (r0_b hb (by decide)) ?_
    refine v_alen0 dX1_worthBeside_11 (sA_b hb (by decide) rfl) ?_
    refine v_icmp_ge 61 dX1_worthBeside_12 (by decide) (by omega) (by omega) (fun c12 => ?_) (fun c12 => ?_)
    · refine w_iload_n dX1_worthBeside_61 rfl ?_
      refine v_iret dX1_worthBeside_62 rfl ⟨rfl, rfl⟩ ?_
      have hk2 : k = 5 := by omega
      subst hk2
      rw [ha]
      exact hs hno
    · refine w_aload_n dX1_worthBeside_15 rfl ?_
      refine w_iload dX1_worthBeside_16 rfl ?_
      refine v_callV1 dX1_worthBeside_18 lX1_19 vX1_told (by decide) rfl rfl (sO_b hb (by decide) rfl) (by decide) rfl (by decide) ?_
      refine x1_told_a hb (by omega) (fun z18 e18 b18 => ?_)
      refine w_istore dX1_worthBeside_21 rfl rfl ?_
      refine w_aload_n dX1_worthBeside_23 rfl ?_
      refine w_iload dX1_worthBeside_24 rfl ?_
      refine w_iload_n dX1_worthBeside_26 rfl ?_
      refine v_isub dX1_worthBeside_27 ?_
      refine v_callV1 dX1_worthBeside_28 lX1_19 vX1_told (by decide) rfl rfl (sO_b hg (by decide) rfl) (by decide) rfl (by decide) ?_
      refine x1_told_a hg (by omega) (fun z28 e28 b28 => ?_)
      refine w_istore dX1_worthBeside_31 rfl rfl ?_
      refine w_iload dX1_worthBeside_33 rfl ?_
      refine v_if_eq 55 dX1_worthBeside_35 (by decide) (by omega) (fun c35 => ?_) (fun c35 => ?_)
      · refine v_iinc dX1_worthBeside_55 rfl rfl rfl ?_
        refine w_goto 5 dX1_worthBeside_58 (by decide) ?_
        refine w_keep 5 ?_
        refine ih (k + 1) _ (by omega) (by omega) ?_ ?_
        · rw [wbC, ← ha]
          simp only [← e18, ← e28]
          split <;> omega
        · intro j hj
          rcases Nat.lt_succ_iff_lt_or_eq.mp hj with q | q
          · exact hno j q
          · subst q
            rw [← e18, ← e28]
            omega
      · refine w_iload dX1_worthBeside_38 rfl ?_
        refine v_if_eq 55 dX1_worthBeside_40 (by decide) (by omega) (fun c40 => ?_) (fun c40 => ?_)
        · refine v_iinc dX1_worthBeside_55 rfl rfl rfl ?_
          refine w_goto 5 dX1_worthBeside_58 (by decide) ?_
          refine w_keep 5 ?_
          refine ih (k + 1) _ (by omega) (by omega) ?_ ?_
          · rw [wbC, ← ha]
            simp only [← e18, ← e28]
            split <;> omega
          · intro j hj
            rcases Nat.lt_succ_iff_lt_or_eq.mp hj with q | q
            · exact hno j q
            · subst q
              rw [← e18, ← e28]
              omega
        · refine w_iload dX1_worthBeside_43 rfl ?_
          refine w_iload dX1_worthBeside_45 rfl ?_
          refine v_icmp_eq 52 dX1_worthBeside_47 (by decide) (by omega) (by omega) (fun c47 => ?_) (fun c47 => ?_)
          · refine v_iinc dX1_worthBeside_52 rfl rfl rfl ?_
            refine v_iinc dX1_worthBeside_55 rfl rfl rfl ?_
            refine w_goto 5 dX1_worthBeside_58 (by decide) ?_
            refine w_keep 5 ?_
            refine ih (k + 1) _ (by omega) (by omega) ?_ ?_
            · rw [wbC, ← ha]
              simp only [← e18, ← e28]
              split <;> omega
            · intro j hj
              rcases Nat.lt_succ_iff_lt_or_eq.mp hj with q | q
              · exact hno j q
              · subst q
                rw [← e18, ← e28]
                omega
          · refine w_iconst (v := iI (-1)) dX1_worthBeside_50 rfl ?_
            refine v_iret dX1_worthBeside_51 rfl ⟨rfl, rfl⟩ ?_
            exact hq ⟨k, by omega, by rw [← e18, ← e28]; omega⟩
theorem x1_worthBeside_a {I : Nat → Nat → Int32} {J : Nat → Nat → Int64} {F : Option Value → zM → Prop} {b : Nat} (hb : b < 10) {g : Nat} (hg : g < 10) {sh : Int} (hsh : -1000 ≤ sh ∧ sh ≤ 1000) (hq : (∃ j : Nat, j < 5 ∧ (tF I (bI b 7) (bI b 8) 5 (j : Int) ≠ 0 ∧ tF I (bI g 7) (bI g 8) 5 ((j : Int) - sh) ≠ 0 ∧ tF I (bI b 7) (bI b 8) 5 (j : Int) ≠ tF I (bI g 7) (bI g 8) 5 ((j : Int) - sh))) → F (some (.int (iI (-1)))) (gM I J)) (hs : (∀ j : Nat, j < 5 → ¬ (tF I (bI b 7) (bI b 8) 5 (j : Int) ≠ 0 ∧ tF I (bI g 7) (bI g 8) 5 ((j : Int) - sh) ≠ 0 ∧ tF I (bI b 7) (bI b 8) 5 (j : Int) ≠ tF I (bI g 7) (bI g 8) 5 ((j : Int) - sh))) → F (some (.int (iI (wbC (fun j : Nat => tF I (bI b 7) (bI b 8) 5 (j : Int)) (fun j : Nat => tF I (bI g 7) (bI g 8) 5 ((j : Int) - sh)) 5)))) (gM I J)) : Cl yX1_worthBeside kX1_worthBeside [.ref (bI b 6), .ref (bI g 6), .int (iI sh)] (gM I J) F := by
  refine cl_s (by decide) (by decide) (Nat.le_of_ble_eq_true rfl) rt_i ?_
  show Wp _ F 0 [(0, .ref (bI b 6)), (1, .ref (bI g 6)), (2, .int (iI sh))] [] _
  refine w_iconst (v := iI 0) dX1_worthBeside_0 rfl ?_
  refine w_istore_n dX1_worthBeside_1 rfl rfl ?_
  refine w_iconst (v := iI 0) dX1_worthBeside_2 rfl ?_
  refine w_istore dX1_worthBeside_3 rfl rfl ?_
  exact x1_worthBeside_a_l hb hg hsh hq hs 6 0 0 (by omega) (by omega) rfl (fun j hj => by omega)
theorem x1_told_d {I : Nat → Nat → Int32} {J : Nat → Nat → Int64} {F : Option Value → zM → Prop} {b : Nat} (hb : b < 10) {i : Int} (bi : -2147483648 ≤ i ∧ i < 2147483648) (h : ∀ z : Int, z = tF I (bI b 10) (bI b 11) 10 i → -2147483648 ≤ z ∧ z < 2147483648 → F (some (.int (iI z))) (gM I J)) : Cl yX1_told kX1_told [.ref (bI b 9), .int (iI i)] (gM I J) F := by
  refine cl_s (by decide) (by decide) (Nat.le_of_ble_eq_true rfl) rt_i ?_
  show Wp _ F 0 [(0, .ref (bI b 9)), (1, .int (iI i))] [] _
  refine w_iload_n dX1_told_0 rfl ?_
  refine v_if_lt 13 dX1_told_1 (by decide) (by omega) (fun c1 => ?_) (fun c1 => ?_)
  · refine w_iconst (v := iI 0) dX1_told_13 rfl ?_
    refine v_iret dX1_told_14 rfl ⟨rfl, rfl⟩ ?_
    exact h 0 (by unfold tF; rw [if_neg (by omega)]) (by decide)
  · refine w_iload_n dX1_told_4 rfl ?_
    refine w_aload_n dX1_told_5 rfl ?_
    refine v_getR (j := bI b 10) dX1_told_6 fX1_9 (sO_b hb (by decide) rfl) rfl (r0_b hb (by decide)) ?_
    refine v_alen0 dX1_told_9 (sA_b hb (by decide) rfl) ?_
    refine v_icmp_lt 15 dX1_told_10 (by decide) (by omega) (by omega) (fun c10 => ?_) (fun c10 => ?_)
    · refine w_aload_n dX1_told_15 rfl ?_
      refine v_getR (j := bI b 11) dX1_told_16 fX1_15 (sO_b hb (by decide) rfl) rfl (r0_b hb (by decide)) ?_
      refine w_iload_n dX1_told_19 rfl ?_
      refine v_zald dX1_told_20 (sA_b hb (by decide) rfl) (by omega) (by omega) (by decide) (fun z20 e20 b20 => ?_)
      refine v_if_eq 33 dX1_told_21 (by decide) (by omega) (fun c21 => ?_) (fun c21 => ?_)
      · refine w_iconst (v := iI 0) dX1_told_33 rfl ?_
        refine v_iret dX1_told_34 rfl ⟨rfl, rfl⟩ ?_
        first | exact h _ (by unfold tF; rw [if_pos (by rw [← e20]; omega)]; exact e29) b29 | exact h 0 (by unfold tF; rw [if_neg (by rw [← e20]; omega)]) (by decide)
      · refine w_aload_n dX1_told_24 rfl ?_
        refine v_getR (j := bI b 10) dX1_told_25 fX1_9 (sO_b hb (by decide) rfl) rfl (r0_b hb (by decide)) ?_
        refine w_iload_n dX1_told_28 rfl ?_
        refine v_iald dX1_told_29 (sA_b hb (by decide) rfl) (by omega) (by omega) (by decide) (fun z29 e29 b29 => ?_)
        refine w_goto 34 dX1_told_30 (by decide) ?_
        refine v_iret dX1_told_34 rfl ⟨rfl, rfl⟩ ?_
        first | exact h _ (by unfold tF; rw [if_pos (by rw [← e20]; omega)]; exact e29) b29 | exact h 0 (by unfold tF; rw [if_neg (by rw [← e20]; omega)]) (by decide)
    · refine w_iconst (v := iI 0) dX1_told_13 rfl ?_
      refine v_iret dX1_told_14 rfl ⟨rfl, rfl⟩ ?_
      exact h 0 (by unfold tF; rw [if_neg (by omega)]) (by decide)
theorem x1_clear_d_l {I : Nat → Nat → Int32} {J : Nat → Nat → Int64} {F : Option Value → zM → Prop} {b : Nat} (hb : b < 10) (h : ∀ I', (∀ id k, rd I' id k = if (id = (bI b 10) ∨ id = (bI b 11)) ∧ k < 10 then 0 else rd I id k) → F none (gM I' J)) : ∀ (n k : Nat) (I' : Nat → Nat → Int32), 10 - k < n → k ≤ 10 → (∀ id j, rd I' id j = if (id = (bI b 10) ∨ id = (bI b 11)) ∧ j < k then 0 else rd I id j) → Wp (sE kX1_clear RX1) F 2 [(0, .ref (bI b 9)), (1, .int (iI (k : Int)))] [] (gM I' J) := by
  intro n
  induction n with
  | zero => intro k I' hn hk hI; omega
  | succ n ih =>
    intro k I' hn hk hI
    refine w_iload_n dX1_clear_2 rfl ?_
    refine w_aload_n dX1_clear_3 rfl ?_
    refine v_getR (j := bI b 10) dX1_clear_4 fX1_9 (sO_b hb (by decide) rfl) rfl (r0_b hb (by decide)) ?_
    refine v_alen0 dX1_clear_7 (sA_b hb (by decide) rfl) ?_
    refine v_icmp_ge 31 dX1_clear_8 (by decide) (by omega) (by omega) (fun c8 => ?_) (fun c8 => ?_)
    · refine v_vret dX1_clear_31 rfl ⟨rfl, rfl⟩ ?_
      exact h I' (fun id j => by have hk2 : k = 10 := (by omega); rw [hI id j, hk2])
    · refine w_aload_n dX1_clear_11 rfl ?_
      refine v_getR (j := bI b 10) dX1_clear_12 fX1_9 (sO_b hb (by decide) rfl) rfl (r0_b hb (by decide)) ?_
      refine w_iload_n dX1_clear_15 rfl ?_
      refine w_iconst (v := iI 0) dX1_clear_16 rfl ?_
      refine v_iast dX1_clear_17 (sA_b hb (by decide) rfl) (by omega) (by omega) (by decide) ?_
      refine w_aload_n dX1_clear_18 rfl ?_
      refine v_getR (j := bI b 11) dX1_clear_19 fX1_15 (sO_b hb (by decide) rfl) rfl (r0_b hb (by decide)) ?_
      refine w_iload_n dX1_clear_22 rfl ?_
      refine w_iconst (v := iI 0) dX1_clear_23 rfl ?_
      refine v_zast dX1_clear_24 (sA_b hb (by decide) rfl) (by omega) (by omega) (by decide) (by decide) ?_
      refine v_iinc dX1_clear_25 rfl rfl rfl ?_
      refine w_goto 2 dX1_clear_28 (by decide) ?_
      refine ih (k + 1) _ (by omega) (by omega) (fun id j => ?_)
      rw [rd_wr (by omega) (by omega), rd_wr (by omega) (by omega), hI id j]
      simp only [Int.toNat_natCast]
      have hne : (bI b 10) ≠ (bI b 11) := by unfold bI; omega
      by_cases h1 : id = (bI b 10)
      · subst h1
        by_cases h3 : j = k
        · simp [h3, hne]
        · by_cases h4 : j < k
          · simp [h3, h4, hne, Nat.lt_succ_of_lt h4]
          · simp [h3, h4, hne, show ¬ j < k + 1 by omega]
      · by_cases h2 : id = (bI b 11)
        · subst h2
          by_cases h3 : j = k
          · simp [h3]
          · by_cases h4 : j < k
            · simp [h3, h4, Nat.lt_succ_of_lt h4]
            · simp [h3, h4, show ¬ j < k + 1 by omega]
        · simp [h1, h2]
theorem x1_clear_d {I : Nat → Nat → Int32} {J : Nat → Nat → Int64} {F : Option Value → zM → Prop} {b : Nat} (hb : b < 10) (h : ∀ I', (∀ id k, rd I' id k = if (id = (bI b 10) ∨ id = (bI b 11)) ∧ k < 10 then 0 else rd I id k) → F none (gM I' J)) : Cl yX1_clear kX1_clear [.ref (bI b 9)] (gM I J) F := by
  refine cl_s (by decide) (by decide) (Nat.le_of_ble_eq_true rfl) rt_v ?_
  show Wp _ F 0 [(0, .ref (bI b 9))] [] _
  refine w_iconst (v := iI 0) dX1_clear_0 rfl ?_
  refine w_istore_n dX1_clear_1 rfl rfl ?_
  exact x1_clear_d_l hb h 11 0 I (by omega) (by omega) (fun id j => by simp)
theorem x1_worthBeside_d_l {I : Nat → Nat → Int32} {J : Nat → Nat → Int64} {F : Option Value → zM → Prop} {b : Nat} (hb : b < 10) {g : Nat} (hg : g < 10) {sh : Int} (hsh : -1000 ≤ sh ∧ sh ≤ 1000) (hq : (∃ j : Nat, j < 10 ∧ (tF I (bI b 10) (bI b 11) 10 (j : Int) ≠ 0 ∧ tF I (bI g 10) (bI g 11) 10 ((j : Int) - sh) ≠ 0 ∧ tF I (bI b 10) (bI b 11) 10 (j : Int) ≠ tF I (bI g 10) (bI g 11) 10 ((j : Int) - sh))) → F (some (.int (iI (-1)))) (gM I J)) (hs : (∀ j : Nat, j < 10 → ¬ (tF I (bI b 10) (bI b 11) 10 (j : Int) ≠ 0 ∧ tF I (bI g 10) (bI g 11) 10 ((j : Int) - sh) ≠ 0 ∧ tF I (bI b 10) (bI b 11) 10 (j : Int) ≠ tF I (bI g 10) (bI g 11) 10 ((j : Int) - sh))) → F (some (.int (iI (wbC (fun j : Nat => tF I (bI b 10) (bI b 11) 10 (j : Int)) (fun j : Nat => tF I (bI g 10) (bI g 11) 10 ((j : Int) - sh)) 10)))) (gM I J)) : ∀ (n k : Nat) (acc : Int), 10 - k < n → k ≤ 10 → acc = wbC (fun j : Nat => tF I (bI b 10) (bI b 11) 10 (j : Int)) (fun j : Nat => tF I (bI g 10) (bI g 11) 10 ((j : Int) - sh)) k → (∀ j : Nat, j < k → ¬ (tF I (bI b 10) (bI b 11) 10 (j : Int) ≠ 0 ∧ tF I (bI g 10) (bI g 11) 10 ((j : Int) - sh) ≠ 0 ∧ tF I (bI b 10) (bI b 11) 10 (j : Int) ≠ tF I (bI g 10) (bI g 11) 10 ((j : Int) - sh))) → Wp (sE kX1_worthBeside RX1) F 5 [(0, .ref (bI b 9)), (1, .ref (bI g 9)), (2, .int (iI sh)), (3, .int (iI acc)), (4, .int (iI (k : Int)))] [] (gM I J) := by
  intro n
  induction n with
  | zero => intro k acc hn hk ha hno; omega
  | succ n ih =>
    intro k acc hn hk ha hno
    refine w_iload dX1_worthBeside_5 rfl ?_
    refine w_aload_n dX1_worthBeside_7 rfl ?_
    refine v_getR (j := bI b 10) dX1_worthBeside_8 fX1_9 (sO_b hb (by decide) rfl) rfl (r0_b hb (by decide)) ?_
    refine v_alen0 dX1_worthBeside_11 (sA_b hb (by decide) rfl) ?_
    refine v_icmp_ge 61 dX1_worthBeside_12 (by decide) (by omega) (by omega) (fun c12 => ?_) (fun c12 => ?_)
    · refine w_iload_n dX1_worthBeside_61 rfl ?_
      refine v_iret dX1_worthBeside_62 rfl ⟨rfl, rfl⟩ ?_
      have hk2 : k = 10 := by omega
      subst hk2
      rw [ha]
      exact hs hno
    · refine w_aload_n dX1_worthBeside_15 rfl ?_
      refine w_iload dX1_worthBeside_16 rfl ?_
      refine v_callV1 dX1_worthBeside_18 lX1_19 vX1_told (by decide) rfl rfl (sO_b hb (by decide) rfl) (by decide) rfl (by decide) ?_
      refine x1_told_d hb (by omega) (fun z18 e18 b18 => ?_)
      refine w_istore dX1_worthBeside_21 rfl rfl ?_
      refine w_aload_n dX1_worthBeside_23 rfl ?_
      refine w_iload dX1_worthBeside_24 rfl ?_
      refine w_iload_n dX1_worthBeside_26 rfl ?_
      refine v_isub dX1_worthBeside_27 ?_
      refine v_callV1 dX1_worthBeside_28 lX1_19 vX1_told (by decide) rfl rfl (sO_b hg (by decide) rfl) (by decide) rfl (by decide) ?_
      refine x1_told_d hg (by omega) (fun z28 e28 b28 => ?_)
      refine w_istore dX1_worthBeside_31 rfl rfl ?_
      refine w_iload dX1_worthBeside_33 rfl ?_
      refine v_if_eq 55 dX1_worthBeside_35 (by decide) (by omega) (fun c35 => ?_) (fun c35 => ?_)
      · refine v_iinc dX1_worthBeside_55 rfl rfl rfl ?_
        refine w_goto 5 dX1_worthBeside_58 (by decide) ?_
        refine w_keep 5 ?_
        refine ih (k + 1) _ (by omega) (by omega) ?_ ?_
        · rw [wbC, ← ha]
          simp only [← e18, ← e28]
          split <;> omega
        · intro j hj
          rcases Nat.lt_succ_iff_lt_or_eq.mp hj with q | q
          · exact hno j q
          · subst q
            rw [← e18, ← e28]
            omega
      · refine w_iload dX1_worthBeside_38 rfl ?_
        refine v_if_eq 55 dX1_worthBeside_40 (by decide) (by omega) (fun c40 => ?_) (fun c40 => ?_)
        · refine v_iinc dX1_worthBeside_55 rfl rfl rfl ?_
          refine w_goto 5 dX1_worthBeside_58 (by decide) ?_
          refine w_keep 5 ?_
          refine ih (k + 1) _ (by omega) (by omega) ?_ ?_
          · rw [wbC, ← ha]
            simp only [← e18, ← e28]
            split <;> omega
          · intro j hj
            rcases Nat.lt_succ_iff_lt_or_eq.mp hj with q | q
            · exact hno j q
            · subst q
              rw [← e18, ← e28]
              omega
        · refine w_iload dX1_worthBeside_43 rfl ?_
          refine w_iload dX1_worthBeside_45 rfl ?_
          refine v_icmp_eq 52 dX1_worthBeside_47 (by decide) (by omega) (by omega) (fun c47 => ?_) (fun c47 => ?_)
          · refine v_iinc dX1_worthBeside_52 rfl rfl rfl ?_
            refine v_iinc dX1_worthBeside_55 rfl rfl rfl ?_
            refine w_goto 5 dX1_worthBeside_58 (by decide) ?_
            refine w_keep 5 ?_
            refine ih (k + 1) _ (by omega) (by omega) ?_ ?_
            · rw [wbC, ← ha]
              simp only [← e18, ← e28]
              split <;> omega
            · intro j hj
              rcases Nat.lt_succ_iff_lt_or_eq.mp hj with q | q
              · exact hno j q
              · subst q
                rw [← e18, ← e28]
                omega
          · refine w_iconst (v := iI (-1)) dX1_worthBeside_50 rfl ?_
            refine v_iret dX1_worthBeside_51 rfl ⟨rfl, rfl⟩ ?_
            exact hq ⟨k, by omega, by rw [← e18, ← e28]; omega⟩
theorem x1_worthBeside_d {I : Nat → Nat → Int32} {J : Nat → Nat → Int64} {F : Option Value → zM → Prop} {b : Nat} (hb : b < 10) {g : Nat} (hg : g < 10) {sh : Int} (hsh : -1000 ≤ sh ∧ sh ≤ 1000) (hq : (∃ j : Nat, j < 10 ∧ (tF I (bI b 10) (bI b 11) 10 (j : Int) ≠ 0 ∧ tF I (bI g 10) (bI g 11) 10 ((j : Int) - sh) ≠ 0 ∧ tF I (bI b 10) (bI b 11) 10 (j : Int) ≠ tF I (bI g 10) (bI g 11) 10 ((j : Int) - sh))) → F (some (.int (iI (-1)))) (gM I J)) (hs : (∀ j : Nat, j < 10 → ¬ (tF I (bI b 10) (bI b 11) 10 (j : Int) ≠ 0 ∧ tF I (bI g 10) (bI g 11) 10 ((j : Int) - sh) ≠ 0 ∧ tF I (bI b 10) (bI b 11) 10 (j : Int) ≠ tF I (bI g 10) (bI g 11) 10 ((j : Int) - sh))) → F (some (.int (iI (wbC (fun j : Nat => tF I (bI b 10) (bI b 11) 10 (j : Int)) (fun j : Nat => tF I (bI g 10) (bI g 11) 10 ((j : Int) - sh)) 10)))) (gM I J)) : Cl yX1_worthBeside kX1_worthBeside [.ref (bI b 9), .ref (bI g 9), .int (iI sh)] (gM I J) F := by
  refine cl_s (by decide) (by decide) (Nat.le_of_ble_eq_true rfl) rt_i ?_
  show Wp _ F 0 [(0, .ref (bI b 9)), (1, .ref (bI g 9)), (2, .int (iI sh))] [] _
  refine w_iconst (v := iI 0) dX1_worthBeside_0 rfl ?_
  refine w_istore_n dX1_worthBeside_1 rfl rfl ?_
  refine w_iconst (v := iI 0) dX1_worthBeside_2 rfl ?_
  refine w_istore dX1_worthBeside_3 rfl rfl ?_
  exact x1_worthBeside_d_l hb hg hsh hq hs 11 0 0 (by omega) (by omega) rfl (fun j hj => by omega)
end
section
/-! Lanes -/
/-- FIBRE j counts beside the lanes from fm on (tellers in cell q, N of them) -/
abbrev wLc (I : Nat → Nat → Int32) (q : Nat) (N : Int) (f : Int → Int) (fm : Int) (j : Nat) : Prop := f j ≠ 0 ∧ 0 ≤ fm + j ∧ fm + j < N ∧ 0 < rd I q (fm + j).toNat
def wLs (I : Nat → Nat → Int32) (q : Nat) (N : Int) (f : Int → Int) (fm : Int) : Nat → Int
  | 0 => 0
  | n + 1 => wLs I q N f fm n + (if wLc I q N f fm n then 2 * rd I q (fm + n).toNat else 0)
def smN (f : Nat → Int) : Nat → Int
  | 0 => 0
  | n + 1 => smN f n + f n
theorem x3_has_a {I : Nat → Nat → Int32} {J : Nat → Nat → Int64} {F : Option Value → zM → Prop} {l : Int} (bl : -2147483648 ≤ l ∧ l < 2147483648) (ht : 0 ≤ l ∧ l < 16 → F (some (.int (iI 1))) (gM I J)) (hf : ¬ (0 ≤ l ∧ l < 16) → F (some (.int (iI 0))) (gM I J)) : Cl yX3_has kX3_has [.ref 145, .int (iI l)] (gM I J) F := by
  refine cl_s (by decide) (by decide) (Nat.le_of_ble_eq_true rfl) rt_z ?_
  show Wp _ F 0 [(0, .ref 145), (1, .int (iI l))] [] _
  refine w_iload_n dX3_has_0 rfl ?_
  refine v_if_lt 17 dX3_has_1 (by decide) (by omega) (fun c1 => ?_) (fun c1 => ?_)
  · refine w_iconst (v := iI 0) dX3_has_17 rfl ?_
    refine v_zret dX3_has_18 rfl ⟨rfl, rfl⟩ (by decide) ?_
    first | exact ht (by omega) | exact hf (by omega)
  · refine w_iload_n dX3_has_4 rfl ?_
    refine w_aload_n dX3_has_5 rfl ?_
    refine v_getR (j := 146) dX3_has_6 fX3_9 ⟨by decide, rfl⟩ rfl rfl ?_
    refine v_alen0 dX3_has_9 ⟨by decide, rfl⟩ ?_
    refine v_icmp_ge 17 dX3_has_10 (by decide) (by omega) (by omega) (fun c10 => ?_) (fun c10 => ?_)
    · refine w_iconst (v := iI 0) dX3_has_17 rfl ?_
      refine v_zret dX3_has_18 rfl ⟨rfl, rfl⟩ (by decide) ?_
      first | exact ht (by omega) | exact hf (by omega)
    · refine w_iconst (v := iI 1) dX3_has_13 rfl ?_
      refine w_goto 18 dX3_has_14 (by decide) ?_
      refine v_zret dX3_has_18 rfl ⟨rfl, rfl⟩ (by decide) ?_
      first | exact ht (by omega) | exact hf (by omega)
theorem x3_worthOf_a_l {I : Nat → Nat → Int32} {J : Nat → Nat → Int64} {F : Option Value → zM → Prop} {b : Nat} (hb : b < 10) {fm : Int} (hfm : -1000 ≤ fm ∧ fm ≤ 1000) (hq : (∃ j : Nat, j < 5 ∧ (wLc I 147 16 (fun i : Int => tF I (bI b 7) (bI b 8) 5 i) fm j ∧ rd I 146 (fm + j).toNat ≠ tF I (bI b 7) (bI b 8) 5 (j : Int))) → F (some (.int (iI (-1)))) (gM I J)) (hs : (∀ j : Nat, j < 5 → ¬ (wLc I 147 16 (fun i : Int => tF I (bI b 7) (bI b 8) 5 i) fm j ∧ rd I 146 (fm + j).toNat ≠ tF I (bI b 7) (bI b 8) 5 (j : Int))) → F (some (.int (iI (wLs I 147 16 (fun i : Int => tF I (bI b 7) (bI b 8) 5 i) fm 5)))) (gM I J)) : ∀ (n : Nat) (k : Nat) (acc : Int), 5 - k < n → k ≤ 5 → acc = wLs I 147 16 (fun i : Int => tF I (bI b 7) (bI b 8) 5 i) fm k → (∀ j : Nat, j < k → ¬ (wLc I 147 16 (fun i : Int => tF I (bI b 7) (bI b 8) 5 i) fm j ∧ rd I 146 (fm + j).toNat ≠ tF I (bI b 7) (bI b 8) 5 (j : Int))) → Wp (sE kX3_worthOf RX3) F 5 [(0, .ref 145), (1, .ref (bI b 6)), (2, .int (iI fm)), (3, .int (iI acc)), (4, .int (iI (k : Int)))] [] (gM I J) := by
  intro n
  induction n with
  | zero =>
    intro k acc hn hk ha hno
    exact absurd hn (Nat.not_lt_zero _)
  | succ n ih =>
    intro k acc hn hk ha hno
    refine w_iload dX3_worthOf_5 rfl ?_
    refine w_aload_n dX3_worthOf_7 rfl ?_
    refine v_getR (j := bI b 7) dX3_worthOf_8 fX3_18 (sO_b hb (by decide) rfl) rfl (r0_b hb (by decide)) ?_
    refine v_alen0 dX3_worthOf_11 (sA_b hb (by decide) rfl) ?_
    refine v_icmp_ge 85 dX3_worthOf_12 (by decide) (by omega) (by omega) (fun c12 => ?_) (fun c12 => ?_)
    · refine w_iload_n dX3_worthOf_85 rfl ?_
      refine v_iret dX3_worthOf_86 rfl ⟨rfl, rfl⟩ ?_
      have hk2 : k = 5 := by omega
      subst hk2
      rw [ha]
      exact hs hno
    · refine w_aload_n dX3_worthOf_15 rfl ?_
      refine w_iload dX3_worthOf_16 rfl ?_
      refine v_callV1 dX3_worthOf_18 lX3_21 vX1_told (by decide) rfl rfl (sO_b hb (by decide) rfl) (by decide) rfl (by decide) ?_
      refine x1_told_a hb (by omega) (fun z18 e18 b18 => ?_)
      refine w_istore dX3_worthOf_21 rfl rfl ?_
      refine w_iload_n dX3_worthOf_23 rfl ?_
      refine w_iload dX3_worthOf_24 rfl ?_
      refine v_iadd dX3_worthOf_26 ?_
      refine w_istore dX3_worthOf_27 rfl rfl ?_
      refine w_iload dX3_worthOf_29 rfl ?_
      refine v_if_eq 79 dX3_worthOf_31 (by decide) (by omega) (fun c31 => ?_) (fun c31 => ?_)
      · refine v_iinc dX3_worthOf_79 rfl rfl rfl ?_
        refine w_goto 5 dX3_worthOf_82 (by decide) ?_
        refine w_keep 5 ?_
        refine ih (k + 1) _ (by omega) (by omega) ?_ ?_
        · rw [wLs, ← ha]
          simp only [wLc, ← e18]
          first
            | (rw [if_pos (by first | omega | exact ⟨by omega, by omega, by omega, by rw [← e49]; omega⟩), e75]; done)
            | (rw [if_neg (by first | omega | (rintro ⟨g1, g2, g3, g4⟩; first | omega | (rw [← e49] at g4; omega)))]; omega)
        · intro j hj
          rcases Nat.lt_succ_iff_lt_or_eq.mp hj with g | g
          · exact hno j g
          · subst g
            rintro ⟨⟨g1, g2, g3, g4⟩, g5⟩
            simp only [← e18] at g1 g5
            first | omega | (rw [← e49] at g4; omega) | (rw [← e59] at g5; omega)
      · refine w_aload_n dX3_worthOf_34 rfl ?_
        refine w_iload dX3_worthOf_35 rfl ?_
        refine v_callV1 dX3_worthOf_37 lX3_25 vX3_has (by decide) rfl rfl ⟨by decide, rfl⟩ (by decide) rfl (by decide) ?_
        refine x3_has_a (by omega) (fun q37 => ?_) (fun q37 => ?_)
        · refine v_if_eq 79 dX3_worthOf_40 (by decide) (by decide) (fun q => absurd q (by decide)) (fun _ => ?_)
          refine w_aload_n dX3_worthOf_43 rfl ?_
          refine v_getR (j := 147) dX3_worthOf_44 fX3_15 ⟨by decide, rfl⟩ rfl rfl ?_
          refine w_iload dX3_worthOf_47 rfl ?_
          refine v_iald dX3_worthOf_49 ⟨by decide, rfl⟩ (by omega) (by omega) (by decide) (fun z49 e49 b49 => ?_)
          refine v_if_le 79 dX3_worthOf_50 (by decide) (by omega) (fun c50 => ?_) (fun c50 => ?_)
          · refine v_iinc dX3_worthOf_79 rfl rfl rfl ?_
            refine w_goto 5 dX3_worthOf_82 (by decide) ?_
            refine w_keep 5 ?_
            refine ih (k + 1) _ (by omega) (by omega) ?_ ?_
            · rw [wLs, ← ha]
              simp only [wLc, ← e18]
              first
                | (rw [if_pos (by first | omega | exact ⟨by omega, by omega, by omega, by rw [← e49]; omega⟩), e75]; done)
                | (rw [if_neg (by first | omega | (rintro ⟨g1, g2, g3, g4⟩; first | omega | (rw [← e49] at g4; omega)))]; omega)
            · intro j hj
              rcases Nat.lt_succ_iff_lt_or_eq.mp hj with g | g
              · exact hno j g
              · subst g
                rintro ⟨⟨g1, g2, g3, g4⟩, g5⟩
                simp only [← e18] at g1 g5
                first | omega | (rw [← e49] at g4; omega) | (rw [← e59] at g5; omega)
          · refine w_aload_n dX3_worthOf_53 rfl ?_
            refine v_getR (j := 146) dX3_worthOf_54 fX3_9 ⟨by decide, rfl⟩ rfl rfl ?_
            refine w_iload dX3_worthOf_57 rfl ?_
            refine v_iald dX3_worthOf_59 ⟨by decide, rfl⟩ (by omega) (by omega) (by decide) (fun z59 e59 b59 => ?_)
            refine w_iload dX3_worthOf_60 rfl ?_
            refine v_icmp_eq 67 dX3_worthOf_62 (by decide) (by omega) (by omega) (fun c62 => ?_) (fun c62 => ?_)
            · refine w_iload_n dX3_worthOf_67 rfl ?_
              refine w_iconst (v := iI 2) dX3_worthOf_68 rfl ?_
              refine w_aload_n dX3_worthOf_69 rfl ?_
              refine v_getR (j := 147) dX3_worthOf_70 fX3_15 ⟨by decide, rfl⟩ rfl rfl ?_
              refine w_iload dX3_worthOf_73 rfl ?_
              refine v_iald dX3_worthOf_75 ⟨by decide, rfl⟩ (by omega) (by omega) (by decide) (fun z75 e75 b75 => ?_)
              refine v_imul dX3_worthOf_76 ?_
              refine v_iadd dX3_worthOf_77 ?_
              refine w_istore_n dX3_worthOf_78 rfl rfl ?_
              refine v_iinc dX3_worthOf_79 rfl rfl rfl ?_
              refine w_goto 5 dX3_worthOf_82 (by decide) ?_
              refine w_keep 5 ?_
              refine ih (k + 1) _ (by omega) (by omega) ?_ ?_
              · rw [wLs, ← ha]
                simp only [wLc, ← e18]
                first
                  | (rw [if_pos (by first | omega | exact ⟨by omega, by omega, by omega, by rw [← e49]; omega⟩), e75]; done)
                  | (rw [if_neg (by first | omega | (rintro ⟨g1, g2, g3, g4⟩; first | omega | (rw [← e49] at g4; omega)))]; omega)
              · intro j hj
                rcases Nat.lt_succ_iff_lt_or_eq.mp hj with g | g
                · exact hno j g
                · subst g
                  rintro ⟨⟨g1, g2, g3, g4⟩, g5⟩
                  simp only [← e18] at g1 g5
                  first | omega | (rw [← e49] at g4; omega) | (rw [← e59] at g5; omega)
            · refine w_iconst (v := iI (-1)) dX3_worthOf_65 rfl ?_
              refine v_iret dX3_worthOf_66 rfl ⟨rfl, rfl⟩ ?_
              exact hq ⟨k, by omega, ⟨by simp only [← e18]; omega, by omega, by omega, by rw [← e49]; omega⟩, by simp only [← e18]; rw [← e59]; omega⟩
        · refine v_if_eq 79 dX3_worthOf_40 (by decide) (by decide) (fun _ => ?_) (fun q => absurd q (by decide))
          refine v_iinc dX3_worthOf_79 rfl rfl rfl ?_
          refine w_goto 5 dX3_worthOf_82 (by decide) ?_
          refine w_keep 5 ?_
          refine ih (k + 1) _ (by omega) (by omega) ?_ ?_
          · rw [wLs, ← ha]
            simp only [wLc, ← e18]
            first
              | (rw [if_pos (by first | omega | exact ⟨by omega, by omega, by omega, by rw [← e49]; omega⟩), e75]; done)
              | (rw [if_neg (by first | omega | (rintro ⟨g1, g2, g3, g4⟩; first | omega | (rw [← e49] at g4; omega)))]; omega)
          · intro j hj
            rcases Nat.lt_succ_iff_lt_or_eq.mp hj with g | g
            · exact hno j g
            · subst g
              rintro ⟨⟨g1, g2, g3, g4⟩, g5⟩
              simp only [← e18] at g1 g5
              first | omega | (rw [← e49] at g4; omega) | (rw [← e59] at g5; omega)
theorem x3_worthOf_a {I : Nat → Nat → Int32} {J : Nat → Nat → Int64} {F : Option Value → zM → Prop} {b : Nat} (hb : b < 10) {fm : Int} (hfm : -1000 ≤ fm ∧ fm ≤ 1000) (hq : (∃ j : Nat, j < 5 ∧ (wLc I 147 16 (fun i : Int => tF I (bI b 7) (bI b 8) 5 i) fm j ∧ rd I 146 (fm + j).toNat ≠ tF I (bI b 7) (bI b 8) 5 (j : Int))) → F (some (.int (iI (-1)))) (gM I J)) (hs : (∀ j : Nat, j < 5 → ¬ (wLc I 147 16 (fun i : Int => tF I (bI b 7) (bI b 8) 5 i) fm j ∧ rd I 146 (fm + j).toNat ≠ tF I (bI b 7) (bI b 8) 5 (j : Int))) → F (some (.int (iI (wLs I 147 16 (fun i : Int => tF I (bI b 7) (bI b 8) 5 i) fm 5)))) (gM I J)) : Cl yX3_worthOf kX3_worthOf [.ref 145, .ref (bI b 6), .int (iI fm)] (gM I J) F := by
  refine cl_s (by decide) (by decide) (Nat.le_of_ble_eq_true rfl) rt_i ?_
  show Wp _ F 0 [(0, .ref 145), (1, .ref (bI b 6)), (2, .int (iI fm))] [] _
  refine w_iconst (v := iI 0) dX3_worthOf_0 rfl ?_
  refine w_istore_n dX3_worthOf_1 rfl rfl ?_
  refine w_iconst (v := iI 0) dX3_worthOf_2 rfl ?_
  refine w_istore dX3_worthOf_3 rfl rfl ?_
  exact x3_worthOf_a_l hb hfm hq hs 6 0 0 (by omega) (by omega) rfl (fun j hj => by omega)
theorem x3_change_a_l {I : Nat → Nat → Int32} {J : Nat → Nat → Int64} {F : Option Value → zM → Prop} {b : Nat} (hb : b < 10) {fm ch : Int} (hfm : -1000 ≤ fm ∧ fm ≤ 1000) (hch : -1 ≤ ch ∧ ch ≤ 1) (htl : ∀ l : Nat, l < 16 → 0 ≤ rd I 147 l ∧ rd I 147 l ≤ 1000) (h : ∀ I', (∀ id l, rd I' id l = if id = 146 ∧ (0 ≤ (l : Int) - fm ∧ (l : Int) - fm < 5 ∧ l < 16 ∧ tF I (bI b 7) (bI b 8) 5 ((l : Int) - fm) ≠ 0) then tF I (bI b 7) (bI b 8) 5 ((l : Int) - fm) else if id = 147 ∧ (0 ≤ (l : Int) - fm ∧ (l : Int) - fm < 5 ∧ l < 16 ∧ tF I (bI b 7) (bI b 8) 5 ((l : Int) - fm) ≠ 0) then rd I 147 l + ch else rd I id l) → F none (gM I' J)) : ∀ (n : Nat) (k : Nat) (I' : Nat → Nat → Int32), 5 - k < n → k ≤ 5 → (∀ id l, rd I' id l = if id = 146 ∧ (0 ≤ (l : Int) - fm ∧ (l : Int) - fm < k ∧ l < 16 ∧ tF I (bI b 7) (bI b 8) 5 ((l : Int) - fm) ≠ 0) then tF I (bI b 7) (bI b 8) 5 ((l : Int) - fm) else if id = 147 ∧ (0 ≤ (l : Int) - fm ∧ (l : Int) - fm < k ∧ l < 16 ∧ tF I (bI b 7) (bI b 8) 5 ((l : Int) - fm) ≠ 0) then rd I 147 l + ch else rd I id l) → Wp (sE kX3_change RX3) F 3 [(0, .ref 145), (1, .ref (bI b 6)), (2, .int (iI fm)), (3, .int (iI ch)), (4, .int (iI (k : Int)))] [] (gM I' J) := by
  intro n
  induction n with
  | zero =>
    intro k I' hn hk hI
    exact absurd hn (Nat.not_lt_zero _)
  | succ n ih =>
    intro k I' hn hk hI
    have hfr : ∀ id l, id ≠ 146 → id ≠ 147 → rd I' id l = rd I id l := fun id l g1 g2 => by rw [hI id l, if_neg (fun g => g1 g.1), if_neg (fun g => g2 g.1)]
    have htF : ∀ j : Nat, tF I' (bI b 7) (bI b 8) 5 (j : Int) = tF I (bI b 7) (bI b 8) 5 (j : Int) := fun j => by
      unfold tF
      rw [hfr _ _ (by unfold bI; omega) (by unfold bI; omega), hfr _ _ (by unfold bI; omega) (by unfold bI; omega)]
    refine w_iload dX3_change_3 rfl ?_
    refine w_aload_n dX3_change_5 rfl ?_
    refine v_getR (j := bI b 7) dX3_change_6 fX3_18 (sO_b hb (by decide) rfl) rfl (r0_b hb (by decide)) ?_
    refine v_alen0 dX3_change_9 (sA_b hb (by decide) rfl) ?_
    refine v_icmp_ge 67 dX3_change_10 (by decide) (by omega) (by omega) (fun c10 => ?_) (fun c10 => ?_)
    · refine v_vret dX3_change_67 rfl ⟨rfl, rfl⟩ ?_
      exact h I' (by have hk2 : k = 5 := (by omega); subst hk2; exact hI)
    · refine w_aload_n dX3_change_13 rfl ?_
      refine w_iload dX3_change_14 rfl ?_
      refine v_callV1 dX3_change_16 lX3_21 vX1_told (by decide) rfl rfl (sO_b hb (by decide) rfl) (by decide) rfl (by decide) ?_
      refine x1_told_a hb (by omega) (fun z16 e16 b16 => ?_)
      have f16 := e16.trans (htF k)
      refine w_istore dX3_change_19 rfl rfl ?_
      refine w_iload_n dX3_change_21 rfl ?_
      refine w_iload dX3_change_22 rfl ?_
      refine v_iadd dX3_change_24 ?_
      refine w_istore dX3_change_25 rfl rfl ?_
      refine w_iload dX3_change_27 rfl ?_
      refine v_if_eq 61 dX3_change_29 (by decide) (by omega) (fun c29 => ?_) (fun c29 => ?_)
      · refine v_iinc dX3_change_61 rfl rfl rfl ?_
        refine w_goto 3 dX3_change_64 (by decide) ?_
        refine w_keep 5 ?_
        refine ih (k + 1) _ (by omega) (by omega) ?_
        intro id l
        first
          | (have e0 : z57 = rd I 147 (fm + k).toNat := by
               rw [e57, rd_wr_row (by decide), hI 147 (fm + k).toNat, if_neg (by omega), if_neg (by omega)]
             have e00 := htl (fm + k).toNat (by omega)
             rw [rd_wr (by omega) (by omega), rd_wr (by omega) (by omega)]
             by_cases g : l = (fm + k).toNat
             · have g2 : (l : Int) - fm = k := by omega
               have e1 : z57 = rd I 147 l := by rw [g]; exact e0
               by_cases g5 : id = 146
               · subst g5
                 rw [if_neg (by omega), if_pos ⟨rfl, g⟩, if_pos ⟨rfl, by rw [g2, ← f16]; omega⟩, g2]
                 exact f16
               · by_cases g6 : id = 147
                 · subst g6
                   rw [if_pos ⟨rfl, g⟩, if_neg (by omega), if_pos ⟨rfl, by rw [g2, ← f16]; omega⟩, e1]
                 · rw [if_neg (by omega), if_neg (by omega), hI id l, if_neg (by omega), if_neg (by omega), if_neg (by omega), if_neg (by omega)]
             · rw [if_neg (by omega), if_neg (by omega), hI id l]
               have e2 : (0 ≤ (l : Int) - fm ∧ (l : Int) - fm < (k : Int)) ↔ (0 ≤ (l : Int) - fm ∧ (l : Int) - fm < ((k + 1 : Nat) : Int)) := by omega
               simp only [← and_assoc, e2])
          | (rw [hI id l]
             by_cases g : (l : Int) - fm = k
             · have e3 : ¬ (l < 16 ∧ tF I (bI b 7) (bI b 8) 5 ((l : Int) - fm) ≠ 0) := by
                 rw [g, ← f16]; omega
               rw [if_neg (by omega), if_neg (by omega), if_neg (by omega), if_neg (by omega)]
             · have e2 : (0 ≤ (l : Int) - fm ∧ (l : Int) - fm < (k : Int)) ↔ (0 ≤ (l : Int) - fm ∧ (l : Int) - fm < ((k + 1 : Nat) : Int)) := by omega
               simp only [← and_assoc, e2])
      · refine w_aload_n dX3_change_32 rfl ?_
        refine w_iload dX3_change_33 rfl ?_
        refine v_callV1 dX3_change_35 lX3_25 vX3_has (by decide) rfl rfl ⟨by decide, rfl⟩ (by decide) rfl (by decide) ?_
        refine x3_has_a (by omega) (fun q35 => ?_) (fun q35 => ?_)
        · refine v_if_eq 61 dX3_change_38 (by decide) (by decide) (fun q => absurd q (by decide)) (fun _ => ?_)
          refine w_aload_n dX3_change_41 rfl ?_
          refine v_getR (j := 146) dX3_change_42 fX3_9 ⟨by decide, rfl⟩ rfl rfl ?_
          refine w_iload dX3_change_45 rfl ?_
          refine w_iload dX3_change_47 rfl ?_
          refine v_iast dX3_change_49 ⟨by decide, rfl⟩ (by omega) (by omega) (by decide) ?_
          refine w_aload_n dX3_change_50 rfl ?_
          refine v_getR (j := 147) dX3_change_51 fX3_15 ⟨by decide, rfl⟩ rfl rfl ?_
          refine w_iload dX3_change_54 rfl ?_
          refine w_dup2 dX3_change_56 rfl rfl ?_
          refine v_iald dX3_change_57 ⟨by decide, rfl⟩ (by omega) (by omega) (by decide) (fun z57 e57 b57 => ?_)
          refine w_iload_n dX3_change_58 rfl ?_
          refine v_iadd dX3_change_59 ?_
          refine v_iast dX3_change_60 ⟨by decide, rfl⟩ (by omega) (by omega) (by decide) ?_
          refine v_iinc dX3_change_61 rfl rfl rfl ?_
          refine w_goto 3 dX3_change_64 (by decide) ?_
          refine w_keep 5 ?_
          refine ih (k + 1) _ (by omega) (by omega) ?_
          intro id l
          first
            | (have e0 : z57 = rd I 147 (fm + k).toNat := by
                 rw [e57, rd_wr_row (by decide), hI 147 (fm + k).toNat, if_neg (by omega), if_neg (by omega)]
               have e00 := htl (fm + k).toNat (by omega)
               rw [rd_wr (by omega) (by omega), rd_wr (by omega) (by omega)]
               by_cases g : l = (fm + k).toNat
               · have g2 : (l : Int) - fm = k := by omega
                 have e1 : z57 = rd I 147 l := by rw [g]; exact e0
                 by_cases g5 : id = 146
                 · subst g5
                   rw [if_neg (by omega), if_pos ⟨rfl, g⟩, if_pos ⟨rfl, by rw [g2, ← f16]; omega⟩, g2]
                   exact f16
                 · by_cases g6 : id = 147
                   · subst g6
                     rw [if_pos ⟨rfl, g⟩, if_neg (by omega), if_pos ⟨rfl, by rw [g2, ← f16]; omega⟩, e1]
                   · rw [if_neg (by omega), if_neg (by omega), hI id l, if_neg (by omega), if_neg (by omega), if_neg (by omega), if_neg (by omega)]
               · rw [if_neg (by omega), if_neg (by omega), hI id l]
                 have e2 : (0 ≤ (l : Int) - fm ∧ (l : Int) - fm < (k : Int)) ↔ (0 ≤ (l : Int) - fm ∧ (l : Int) - fm < ((k + 1 : Nat) : Int)) := by omega
                 simp only [← and_assoc, e2])
            | (rw [hI id l]
               by_cases g : (l : Int) - fm = k
               · have e3 : ¬ (l < 16 ∧ tF I (bI b 7) (bI b 8) 5 ((l : Int) - fm) ≠ 0) := by
                   rw [g, ← f16]; omega
                 rw [if_neg (by omega), if_neg (by omega), if_neg (by omega), if_neg (by omega)]
               · have e2 : (0 ≤ (l : Int) - fm ∧ (l : Int) - fm < (k : Int)) ↔ (0 ≤ (l : Int) - fm ∧ (l : Int) - fm < ((k + 1 : Nat) : Int)) := by omega
                 simp only [← and_assoc, e2])
        · refine v_if_eq 61 dX3_change_38 (by decide) (by decide) (fun _ => ?_) (fun q => absurd q (by decide))
          refine v_iinc dX3_change_61 rfl rfl rfl ?_
          refine w_goto 3 dX3_change_64 (by decide) ?_
          refine w_keep 5 ?_
          refine ih (k + 1) _ (by omega) (by omega) ?_
          intro id l
          first
            | (have e0 : z57 = rd I 147 (fm + k).toNat := by
                 rw [e57, rd_wr_row (by decide), hI 147 (fm + k).toNat, if_neg (by omega), if_neg (by omega)]
               have e00 := htl (fm + k).toNat (by omega)
               rw [rd_wr (by omega) (by omega), rd_wr (by omega) (by omega)]
               by_cases g : l = (fm + k).toNat
               · have g2 : (l : Int) - fm = k := by omega
                 have e1 : z57 = rd I 147 l := by rw [g]; exact e0
                 by_cases g5 : id = 146
                 · subst g5
                   rw [if_neg (by omega), if_pos ⟨rfl, g⟩, if_pos ⟨rfl, by rw [g2, ← f16]; omega⟩, g2]
                   exact f16
                 · by_cases g6 : id = 147
                   · subst g6
                     rw [if_pos ⟨rfl, g⟩, if_neg (by omega), if_pos ⟨rfl, by rw [g2, ← f16]; omega⟩, e1]
                   · rw [if_neg (by omega), if_neg (by omega), hI id l, if_neg (by omega), if_neg (by omega), if_neg (by omega), if_neg (by omega)]
               · rw [if_neg (by omega), if_neg (by omega), hI id l]
                 have e2 : (0 ≤ (l : Int) - fm ∧ (l : Int) - fm < (k : Int)) ↔ (0 ≤ (l : Int) - fm ∧ (l : Int) - fm < ((k + 1 : Nat) : Int)) := by omega
                 simp only [← and_assoc, e2])
            | (rw [hI id l]
               by_cases g : (l : Int) - fm = k
               · have e3 : ¬ (l < 16 ∧ tF I (bI b 7) (bI b 8) 5 ((l : Int) - fm) ≠ 0) := by
                   rw [g, ← f16]; omega
                 rw [if_neg (by omega), if_neg (by omega), if_neg (by omega), if_neg (by omega)]
               · have e2 : (0 ≤ (l : Int) - fm ∧ (l : Int) - fm < (k : Int)) ↔ (0 ≤ (l : Int) - fm ∧ (l : Int) - fm < ((k + 1 : Nat) : Int)) := by omega
                 simp only [← and_assoc, e2])
theorem x3_change_a {I : Nat → Nat → Int32} {J : Nat → Nat → Int64} {F : Option Value → zM → Prop} {b : Nat} (hb : b < 10) {fm ch : Int} (hfm : -1000 ≤ fm ∧ fm ≤ 1000) (hch : -1 ≤ ch ∧ ch ≤ 1) (htl : ∀ l : Nat, l < 16 → 0 ≤ rd I 147 l ∧ rd I 147 l ≤ 1000) (h : ∀ I', (∀ id l, rd I' id l = if id = 146 ∧ (0 ≤ (l : Int) - fm ∧ (l : Int) - fm < 5 ∧ l < 16 ∧ tF I (bI b 7) (bI b 8) 5 ((l : Int) - fm) ≠ 0) then tF I (bI b 7) (bI b 8) 5 ((l : Int) - fm) else if id = 147 ∧ (0 ≤ (l : Int) - fm ∧ (l : Int) - fm < 5 ∧ l < 16 ∧ tF I (bI b 7) (bI b 8) 5 ((l : Int) - fm) ≠ 0) then rd I 147 l + ch else rd I id l) → F none (gM I' J)) : Cl yX3_change kX3_change [.ref 145, .ref (bI b 6), .int (iI fm), .int (iI ch)] (gM I J) F := by
  refine cl_s (by decide) (by decide) (Nat.le_of_ble_eq_true rfl) rt_v ?_
  show Wp _ F 0 [(0, .ref 145), (1, .ref (bI b 6)), (2, .int (iI fm)), (3, .int (iI ch))] [] _
  refine w_iconst (v := iI 0) dX3_change_0 rfl ?_
  refine w_istore dX3_change_1 rfl rfl ?_
  exact x3_change_a_l hb hfm hch htl h 6 0 I (by omega) (by omega) (fun id l => by rw [if_neg (by omega), if_neg (by omega)])
theorem x3_pairsWorth_a_l {I : Nat → Nat → Int32} {J : Nat → Nat → Int64} {F : Option Value → zM → Prop} (h : F (some (.int (iI (smN (fun l => rd I 147 l * (rd I 147 l - 1)) 16)))) (gM I J)) : ∀ (n : Nat) (k : Nat) (acc : Int), 16 - k < n → k ≤ 16 → acc = smN (fun l => rd I 147 l * (rd I 147 l - 1)) k → Wp (sE kX3_pairsWorth RX3) F 4 [(0, .ref 145), (1, .int (iI acc)), (2, .int (iI (k : Int)))] [] (gM I J) := by
  intro n
  induction n with
  | zero =>
    intro k acc hn hk ha
    exact absurd hn (Nat.not_lt_zero _)
  | succ n ih =>
    intro k acc hn hk ha
    refine w_iload_n dX3_pairsWorth_4 rfl ?_
    refine w_aload_n dX3_pairsWorth_5 rfl ?_
    refine v_getR (j := 147) dX3_pairsWorth_6 fX3_15 ⟨by decide, rfl⟩ rfl rfl ?_
    refine v_alen0 dX3_pairsWorth_9 ⟨by decide, rfl⟩ ?_
    refine v_icmp_ge 37 dX3_pairsWorth_10 (by decide) (by omega) (by omega) (fun c10 => ?_) (fun c10 => ?_)
    · refine w_iload_n dX3_pairsWorth_37 rfl ?_
      refine v_iret dX3_pairsWorth_38 rfl ⟨rfl, rfl⟩ ?_
      have hk2 : k = 16 := by omega
      subst hk2
      rw [ha]
      exact h
    · refine w_iload_n dX3_pairsWorth_13 rfl ?_
      refine w_aload_n dX3_pairsWorth_14 rfl ?_
      refine v_getR (j := 147) dX3_pairsWorth_15 fX3_15 ⟨by decide, rfl⟩ rfl rfl ?_
      refine w_iload_n dX3_pairsWorth_18 rfl ?_
      refine v_iald dX3_pairsWorth_19 ⟨by decide, rfl⟩ (by omega) (by omega) (by decide) (fun z19 e19 b19 => ?_)
      refine w_aload_n dX3_pairsWorth_20 rfl ?_
      refine v_getR (j := 147) dX3_pairsWorth_21 fX3_15 ⟨by decide, rfl⟩ rfl rfl ?_
      refine w_iload_n dX3_pairsWorth_24 rfl ?_
      refine v_iald dX3_pairsWorth_25 ⟨by decide, rfl⟩ (by omega) (by omega) (by decide) (fun z25 e25 b25 => ?_)
      refine w_iconst (v := iI 1) dX3_pairsWorth_26 rfl ?_
      refine v_isub dX3_pairsWorth_27 ?_
      refine v_imul dX3_pairsWorth_28 ?_
      refine v_iadd dX3_pairsWorth_29 ?_
      refine w_istore_n dX3_pairsWorth_30 rfl rfl ?_
      refine v_iinc dX3_pairsWorth_31 rfl rfl rfl ?_
      refine w_goto 4 dX3_pairsWorth_34 (by decide) ?_
      refine ih (k + 1) _ (by omega) (by omega) ?_
      rw [smN, ← ha, e19, e25]
      simp only [Int.toNat_natCast]
theorem x3_pairsWorth_a {I : Nat → Nat → Int32} {J : Nat → Nat → Int64} {F : Option Value → zM → Prop} (h : F (some (.int (iI (smN (fun l => rd I 147 l * (rd I 147 l - 1)) 16)))) (gM I J)) : Cl yX3_pairsWorth kX3_pairsWorth [.ref 145] (gM I J) F := by
  refine cl_s (by decide) (by decide) (Nat.le_of_ble_eq_true rfl) rt_i ?_
  show Wp _ F 0 [(0, .ref 145)] [] _
  refine w_iconst (v := iI 0) dX3_pairsWorth_0 rfl ?_
  refine w_istore_n dX3_pairsWorth_1 rfl rfl ?_
  refine w_iconst (v := iI 0) dX3_pairsWorth_2 rfl ?_
  refine w_istore_n dX3_pairsWorth_3 rfl rfl ?_
  exact x3_pairsWorth_a_l h 17 0 0 (by omega) (by omega) rfl
theorem x3_has_d {I : Nat → Nat → Int32} {J : Nat → Nat → Int64} {F : Option Value → zM → Prop} {l : Int} (bl : -2147483648 ≤ l ∧ l < 2147483648) (ht : 0 ≤ l ∧ l < 32 → F (some (.int (iI 1))) (gM I J)) (hf : ¬ (0 ≤ l ∧ l < 32) → F (some (.int (iI 0))) (gM I J)) : Cl yX3_has kX3_has [.ref 148, .int (iI l)] (gM I J) F := by
  refine cl_s (by decide) (by decide) (Nat.le_of_ble_eq_true rfl) rt_z ?_
  show Wp _ F 0 [(0, .ref 148), (1, .int (iI l))] [] _
  refine w_iload_n dX3_has_0 rfl ?_
  refine v_if_lt 17 dX3_has_1 (by decide) (by omega) (fun c1 => ?_) (fun c1 => ?_)
  · refine w_iconst (v := iI 0) dX3_has_17 rfl ?_
    refine v_zret dX3_has_18 rfl ⟨rfl, rfl⟩ (by decide) ?_
    first | exact ht (by omega) | exact hf (by omega)
  · refine w_iload_n dX3_has_4 rfl ?_
    refine w_aload_n dX3_has_5 rfl ?_
    refine v_getR (j := 149) dX3_has_6 fX3_9 ⟨by decide, rfl⟩ rfl rfl ?_
    refine v_alen0 dX3_has_9 ⟨by decide, rfl⟩ ?_
    refine v_icmp_ge 17 dX3_has_10 (by decide) (by omega) (by omega) (fun c10 => ?_) (fun c10 => ?_)
    · refine w_iconst (v := iI 0) dX3_has_17 rfl ?_
      refine v_zret dX3_has_18 rfl ⟨rfl, rfl⟩ (by decide) ?_
      first | exact ht (by omega) | exact hf (by omega)
    · refine w_iconst (v := iI 1) dX3_has_13 rfl ?_
      refine w_goto 18 dX3_has_14 (by decide) ?_
      refine v_zret dX3_has_18 rfl ⟨rfl, rfl⟩ (by decide) ?_
      first | exact ht (by omega) | exact hf (by omega)
theorem x3_worthOf_d_l {I : Nat → Nat → Int32} {J : Nat → Nat → Int64} {F : Option Value → zM → Prop} {b : Nat} (hb : b < 10) {fm : Int} (hfm : -1000 ≤ fm ∧ fm ≤ 1000) (hq : (∃ j : Nat, j < 10 ∧ (wLc I 150 32 (fun i : Int => tF I (bI b 10) (bI b 11) 10 i) fm j ∧ rd I 149 (fm + j).toNat ≠ tF I (bI b 10) (bI b 11) 10 (j : Int))) → F (some (.int (iI (-1)))) (gM I J)) (hs : (∀ j : Nat, j < 10 → ¬ (wLc I 150 32 (fun i : Int => tF I (bI b 10) (bI b 11) 10 i) fm j ∧ rd I 149 (fm + j).toNat ≠ tF I (bI b 10) (bI b 11) 10 (j : Int))) → F (some (.int (iI (wLs I 150 32 (fun i : Int => tF I (bI b 10) (bI b 11) 10 i) fm 10)))) (gM I J)) : ∀ (n : Nat) (k : Nat) (acc : Int), 10 - k < n → k ≤ 10 → acc = wLs I 150 32 (fun i : Int => tF I (bI b 10) (bI b 11) 10 i) fm k → (∀ j : Nat, j < k → ¬ (wLc I 150 32 (fun i : Int => tF I (bI b 10) (bI b 11) 10 i) fm j ∧ rd I 149 (fm + j).toNat ≠ tF I (bI b 10) (bI b 11) 10 (j : Int))) → Wp (sE kX3_worthOf RX3) F 5 [(0, .ref 148), (1, .ref (bI b 9)), (2, .int (iI fm)), (3, .int (iI acc)), (4, .int (iI (k : Int)))] [] (gM I J) := by
  intro n
  induction n with
  | zero =>
    intro k acc hn hk ha hno
    exact absurd hn (Nat.not_lt_zero _)
  | succ n ih =>
    intro k acc hn hk ha hno
    refine w_iload dX3_worthOf_5 rfl ?_
    refine w_aload_n dX3_worthOf_7 rfl ?_
    refine v_getR (j := bI b 10) dX3_worthOf_8 fX3_18 (sO_b hb (by decide) rfl) rfl (r0_b hb (by decide)) ?_
    refine v_alen0 dX3_worthOf_11 (sA_b hb (by decide) rfl) ?_
    refine v_icmp_ge 85 dX3_worthOf_12 (by decide) (by omega) (by omega) (fun c12 => ?_) (fun c12 => ?_)
    · refine w_iload_n dX3_worthOf_85 rfl ?_
      refine v_iret dX3_worthOf_86 rfl ⟨rfl, rfl⟩ ?_
      have hk2 : k = 10 := by omega
      subst hk2
      rw [ha]
      exact hs hno
    · refine w_aload_n dX3_worthOf_15 rfl ?_
      refine w_iload dX3_worthOf_16 rfl ?_
      refine v_callV1 dX3_worthOf_18 lX3_21 vX1_told (by decide) rfl rfl (sO_b hb (by decide) rfl) (by decide) rfl (by decide) ?_
      refine x1_told_d hb (by omega) (fun z18 e18 b18 => ?_)
      refine w_istore dX3_worthOf_21 rfl rfl ?_
      refine w_iload_n dX3_worthOf_23 rfl ?_
      refine w_iload dX3_worthOf_24 rfl ?_
      refine v_iadd dX3_worthOf_26 ?_
      refine w_istore dX3_worthOf_27 rfl rfl ?_
      refine w_iload dX3_worthOf_29 rfl ?_
      refine v_if_eq 79 dX3_worthOf_31 (by decide) (by omega) (fun c31 => ?_) (fun c31 => ?_)
      · refine v_iinc dX3_worthOf_79 rfl rfl rfl ?_
        refine w_goto 5 dX3_worthOf_82 (by decide) ?_
        refine w_keep 5 ?_
        refine ih (k + 1) _ (by omega) (by omega) ?_ ?_
        · rw [wLs, ← ha]
          simp only [wLc, ← e18]
          first
            | (rw [if_pos (by first | omega | exact ⟨by omega, by omega, by omega, by rw [← e49]; omega⟩), e75]; done)
            | (rw [if_neg (by first | omega | (rintro ⟨g1, g2, g3, g4⟩; first | omega | (rw [← e49] at g4; omega)))]; omega)
        · intro j hj
          rcases Nat.lt_succ_iff_lt_or_eq.mp hj with g | g
          · exact hno j g
          · subst g
            rintro ⟨⟨g1, g2, g3, g4⟩, g5⟩
            simp only [← e18] at g1 g5
            first | omega | (rw [← e49] at g4; omega) | (rw [← e59] at g5; omega)
      · refine w_aload_n dX3_worthOf_34 rfl ?_
        refine w_iload dX3_worthOf_35 rfl ?_
        refine v_callV1 dX3_worthOf_37 lX3_25 vX3_has (by decide) rfl rfl ⟨by decide, rfl⟩ (by decide) rfl (by decide) ?_
        refine x3_has_d (by omega) (fun q37 => ?_) (fun q37 => ?_)
        · refine v_if_eq 79 dX3_worthOf_40 (by decide) (by decide) (fun q => absurd q (by decide)) (fun _ => ?_)
          refine w_aload_n dX3_worthOf_43 rfl ?_
          refine v_getR (j := 150) dX3_worthOf_44 fX3_15 ⟨by decide, rfl⟩ rfl rfl ?_
          refine w_iload dX3_worthOf_47 rfl ?_
          refine v_iald dX3_worthOf_49 ⟨by decide, rfl⟩ (by omega) (by omega) (by decide) (fun z49 e49 b49 => ?_)
          refine v_if_le 79 dX3_worthOf_50 (by decide) (by omega) (fun c50 => ?_) (fun c50 => ?_)
          · refine v_iinc dX3_worthOf_79 rfl rfl rfl ?_
            refine w_goto 5 dX3_worthOf_82 (by decide) ?_
            refine w_keep 5 ?_
            refine ih (k + 1) _ (by omega) (by omega) ?_ ?_
            · rw [wLs, ← ha]
              simp only [wLc, ← e18]
              first
                | (rw [if_pos (by first | omega | exact ⟨by omega, by omega, by omega, by rw [← e49]; omega⟩), e75]; done)
                | (rw [if_neg (by first | omega | (rintro ⟨g1, g2, g3, g4⟩; first | omega | (rw [← e49] at g4; omega)))]; omega)
            · intro j hj
              rcases Nat.lt_succ_iff_lt_or_eq.mp hj with g | g
              · exact hno j g
              · subst g
                rintro ⟨⟨g1, g2, g3, g4⟩, g5⟩
                simp only [← e18] at g1 g5
                first | omega | (rw [← e49] at g4; omega) | (rw [← e59] at g5; omega)
          · refine w_aload_n dX3_worthOf_53 rfl ?_
            refine v_getR (j := 149) dX3_worthOf_54 fX3_9 ⟨by decide, rfl⟩ rfl rfl ?_
            refine w_iload dX3_worthOf_57 rfl ?_
            refine v_iald dX3_worthOf_59 ⟨by decide, rfl⟩ (by omega) (by omega) (by decide) (fun z59 e59 b59 => ?_)
            refine w_iload dX3_worthOf_60 rfl ?_
            refine v_icmp_eq 67 dX3_worthOf_62 (by decide) (by omega) (by omega) (fun c62 => ?_) (fun c62 => ?_)
            · refine w_iload_n dX3_worthOf_67 rfl ?_
              refine w_iconst (v := iI 2) dX3_worthOf_68 rfl ?_
              refine w_aload_n dX3_worthOf_69 rfl ?_
              refine v_getR (j := 150) dX3_worthOf_70 fX3_15 ⟨by decide, rfl⟩ rfl rfl ?_
              refine w_iload dX3_worthOf_73 rfl ?_
              refine v_iald dX3_worthOf_75 ⟨by decide, rfl⟩ (by omega) (by omega) (by decide) (fun z75 e75 b75 => ?_)
              refine v_imul dX3_worthOf_76 ?_
              refine v_iadd dX3_worthOf_77 ?_
              refine w_istore_n dX3_worthOf_78 rfl rfl ?_
              refine v_iinc dX3_worthOf_79 rfl rfl rfl ?_
              refine w_goto 5 dX3_worthOf_82 (by decide) ?_
              refine w_keep 5 ?_
              refine ih (k + 1) _ (by omega) (by omega) ?_ ?_
              · rw [wLs, ← ha]
                simp only [wLc, ← e18]
                first
                  | (rw [if_pos (by first | omega | exact ⟨by omega, by omega, by omega, by rw [← e49]; omega⟩), e75]; done)
                  | (rw [if_neg (by first | omega | (rintro ⟨g1, g2, g3, g4⟩; first | omega | (rw [← e49] at g4; omega)))]; omega)
              · intro j hj
                rcases Nat.lt_succ_iff_lt_or_eq.mp hj with g | g
                · exact hno j g
                · subst g
                  rintro ⟨⟨g1, g2, g3, g4⟩, g5⟩
                  simp only [← e18] at g1 g5
                  first | omega | (rw [← e49] at g4; omega) | (rw [← e59] at g5; omega)
            · refine w_iconst (v := iI (-1)) dX3_worthOf_65 rfl ?_
              refine v_iret dX3_worthOf_66 rfl ⟨rfl, rfl⟩ ?_
              exact hq ⟨k, by omega, ⟨by simp only [← e18]; omega, by omega, by omega, by rw [← e49]; omega⟩, by simp only [← e18]; rw [← e59]; omega⟩
        · refine v_if_eq 79 dX3_worthOf_40 (by decide) (by decide) (fun _ => ?_) (fun q => absurd q (by decide))
          refine v_iinc dX3_worthOf_79 rfl rfl rfl ?_
          refine w_goto 5 dX3_worthOf_82 (by decide) ?_
          refine w_keep 5 ?_
          refine ih (k + 1) _ (by omega) (by omega) ?_ ?_
          · rw [wLs, ← ha]
            simp only [wLc, ← e18]
            first
              | (rw [if_pos (by first | omega | exact ⟨by omega, by omega, by omega, by rw [← e49]; omega⟩), e75]; done)
              | (rw [if_neg (by first | omega | (rintro ⟨g1, g2, g3, g4⟩; first | omega | (rw [← e49] at g4; omega)))]; omega)
          · intro j hj
            rcases Nat.lt_succ_iff_lt_or_eq.mp hj with g | g
            · exact hno j g
            · subst g
              rintro ⟨⟨g1, g2, g3, g4⟩, g5⟩
              simp only [← e18] at g1 g5
              first | omega | (rw [← e49] at g4; omega) | (rw [← e59] at g5; omega)
theorem x3_worthOf_d {I : Nat → Nat → Int32} {J : Nat → Nat → Int64} {F : Option Value → zM → Prop} {b : Nat} (hb : b < 10) {fm : Int} (hfm : -1000 ≤ fm ∧ fm ≤ 1000) (hq : (∃ j : Nat, j < 10 ∧ (wLc I 150 32 (fun i : Int => tF I (bI b 10) (bI b 11) 10 i) fm j ∧ rd I 149 (fm + j).toNat ≠ tF I (bI b 10) (bI b 11) 10 (j : Int))) → F (some (.int (iI (-1)))) (gM I J)) (hs : (∀ j : Nat, j < 10 → ¬ (wLc I 150 32 (fun i : Int => tF I (bI b 10) (bI b 11) 10 i) fm j ∧ rd I 149 (fm + j).toNat ≠ tF I (bI b 10) (bI b 11) 10 (j : Int))) → F (some (.int (iI (wLs I 150 32 (fun i : Int => tF I (bI b 10) (bI b 11) 10 i) fm 10)))) (gM I J)) : Cl yX3_worthOf kX3_worthOf [.ref 148, .ref (bI b 9), .int (iI fm)] (gM I J) F := by
  refine cl_s (by decide) (by decide) (Nat.le_of_ble_eq_true rfl) rt_i ?_
  show Wp _ F 0 [(0, .ref 148), (1, .ref (bI b 9)), (2, .int (iI fm))] [] _
  refine w_iconst (v := iI 0) dX3_worthOf_0 rfl ?_
  refine w_istore_n dX3_worthOf_1 rfl rfl ?_
  refine w_iconst (v := iI 0) dX3_worthOf_2 rfl ?_
  refine w_istore dX3_worthOf_3 rfl rfl ?_
  exact x3_worthOf_d_l hb hfm hq hs 11 0 0 (by omega) (by omega) rfl (fun j hj => by omega)
theorem x3_change_d_l {I : Nat → Nat → Int32} {J : Nat → Nat → Int64} {F : Option Value → zM → Prop} {b : Nat} (hb : b < 10) {fm ch : Int} (hfm : -1000 ≤ fm ∧ fm ≤ 1000) (hch : -1 ≤ ch ∧ ch ≤ 1) (htl : ∀ l : Nat, l < 32 → 0 ≤ rd I 150 l ∧ rd I 150 l ≤ 1000) (h : ∀ I', (∀ id l, rd I' id l = if id = 149 ∧ (0 ≤ (l : Int) - fm ∧ (l : Int) - fm < 10 ∧ l < 32 ∧ tF I (bI b 10) (bI b 11) 10 ((l : Int) - fm) ≠ 0) then tF I (bI b 10) (bI b 11) 10 ((l : Int) - fm) else if id = 150 ∧ (0 ≤ (l : Int) - fm ∧ (l : Int) - fm < 10 ∧ l < 32 ∧ tF I (bI b 10) (bI b 11) 10 ((l : Int) - fm) ≠ 0) then rd I 150 l + ch else rd I id l) → F none (gM I' J)) : ∀ (n : Nat) (k : Nat) (I' : Nat → Nat → Int32), 10 - k < n → k ≤ 10 → (∀ id l, rd I' id l = if id = 149 ∧ (0 ≤ (l : Int) - fm ∧ (l : Int) - fm < k ∧ l < 32 ∧ tF I (bI b 10) (bI b 11) 10 ((l : Int) - fm) ≠ 0) then tF I (bI b 10) (bI b 11) 10 ((l : Int) - fm) else if id = 150 ∧ (0 ≤ (l : Int) - fm ∧ (l : Int) - fm < k ∧ l < 32 ∧ tF I (bI b 10) (bI b 11) 10 ((l : Int) - fm) ≠ 0) then rd I 150 l + ch else rd I id l) → Wp (sE kX3_change RX3) F 3 [(0, .ref 148), (1, .ref (bI b 9)), (2, .int (iI fm)), (3, .int (iI ch)), (4, .int (iI (k : Int)))] [] (gM I' J) := by
  intro n
  induction n with
  | zero =>
    intro k I' hn hk hI
    exact absurd hn (Nat.not_lt_zero _)
  | succ n ih =>
    intro k I' hn hk hI
    have hfr : ∀ id l, id ≠ 149 → id ≠ 150 → rd I' id l = rd I id l := fun id l g1 g2 => by rw [hI id l, if_neg (fun g => g1 g.1), if_neg (fun g => g2 g.1)]
    have htF : ∀ j : Nat, tF I' (bI b 10) (bI b 11) 10 (j : Int) = tF I (bI b 10) (bI b 11) 10 (j : Int) := fun j => by
      unfold tF
      rw [hfr _ _ (by unfold bI; omega) (by unfold bI; omega), hfr _ _ (by unfold bI; omega) (by unfold bI; omega)]
    refine w_iload dX3_change_3 rfl ?_
    refine w_aload_n dX3_change_5 rfl ?_
    refine v_getR (j := bI b 10) dX3_change_6 fX3_18 (sO_b hb (by decide) rfl) rfl (r0_b hb (by decide)) ?_
    refine v_alen0 dX3_change_9 (sA_b hb (by decide) rfl) ?_
    refine v_icmp_ge 67 dX3_change_10 (by decide) (by omega) (by omega) (fun c10 => ?_) (fun c10 => ?_)
    · refine v_vret dX3_change_67 rfl ⟨rfl, rfl⟩ ?_
      exact h I' (by have hk2 : k = 10 := (by omega); subst hk2; exact hI)
    · refine w_aload_n dX3_change_13 rfl ?_
      refine w_iload dX3_change_14 rfl ?_
      refine v_callV1 dX3_change_16 lX3_21 vX1_told (by decide) rfl rfl (sO_b hb (by decide) rfl) (by decide) rfl (by decide) ?_
      refine x1_told_d hb (by omega) (fun z16 e16 b16 => ?_)
      have f16 := e16.trans (htF k)
      refine w_istore dX3_change_19 rfl rfl ?_
      refine w_iload_n dX3_change_21 rfl ?_
      refine w_iload dX3_change_22 rfl ?_
      refine v_iadd dX3_change_24 ?_
      refine w_istore dX3_change_25 rfl rfl ?_
      refine w_iload dX3_change_27 rfl ?_
      refine v_if_eq 61 dX3_change_29 (by decide) (by omega) (fun c29 => ?_) (fun c29 => ?_)
      · refine v_iinc dX3_change_61 rfl rfl rfl ?_
        refine w_goto 3 dX3_change_64 (by decide) ?_
        refine w_keep 5 ?_
        refine ih (k + 1) _ (by omega) (by omega) ?_
        intro id l
        first
          | (have e0 : z57 = rd I 150 (fm + k).toNat := by
               rw [e57, rd_wr_row (by decide), hI 150 (fm + k).toNat, if_neg (by omega), if_neg (by omega)]
             have e00 := htl (fm + k).toNat (by omega)
             rw [rd_wr (by omega) (by omega), rd_wr (by omega) (by omega)]
             by_cases g : l = (fm + k).toNat
             · have g2 : (l : Int) - fm = k := by omega
               have e1 : z57 = rd I 150 l := by rw [g]; exact e0
               by_cases g5 : id = 149
               · subst g5
                 rw [if_neg (by omega), if_pos ⟨rfl, g⟩, if_pos ⟨rfl, by rw [g2, ← f16]; omega⟩, g2]
                 exact f16
               · by_cases g6 : id = 150
                 · subst g6
                   rw [if_pos ⟨rfl, g⟩, if_neg (by omega), if_pos ⟨rfl, by rw [g2, ← f16]; omega⟩, e1]
                 · rw [if_neg (by omega), if_neg (by omega), hI id l, if_neg (by omega), if_neg (by omega), if_neg (by omega), if_neg (by omega)]
             · rw [if_neg (by omega), if_neg (by omega), hI id l]
               have e2 : (0 ≤ (l : Int) - fm ∧ (l : Int) - fm < (k : Int)) ↔ (0 ≤ (l : Int) - fm ∧ (l : Int) - fm < ((k + 1 : Nat) : Int)) := by omega
               simp only [← and_assoc, e2])
          | (rw [hI id l]
             by_cases g : (l : Int) - fm = k
             · have e3 : ¬ (l < 32 ∧ tF I (bI b 10) (bI b 11) 10 ((l : Int) - fm) ≠ 0) := by
                 rw [g, ← f16]; omega
               rw [if_neg (by omega), if_neg (by omega), if_neg (by omega), if_neg (by omega)]
             · have e2 : (0 ≤ (l : Int) - fm ∧ (l : Int) - fm < (k : Int)) ↔ (0 ≤ (l : Int) - fm ∧ (l : Int) - fm < ((k + 1 : Nat) : Int)) := by omega
               simp only [← and_assoc, e2])
      · refine w_aload_n dX3_change_32 rfl ?_
        refine w_iload dX3_change_33 rfl ?_
        refine v_callV1 dX3_change_35 lX3_25 vX3_has (by decide) rfl rfl ⟨by decide, rfl⟩ (by decide) rfl (by decide) ?_
        refine x3_has_d (by omega) (fun q35 => ?_) (fun q35 => ?_)
        · refine v_if_eq 61 dX3_change_38 (by decide) (by decide) (fun q => absurd q (by decide)) (fun _ => ?_)
          refine w_aload_n dX3_change_41 rfl ?_
          refine v_getR (j := 149) dX3_change_42 fX3_9 ⟨by decide, rfl⟩ rfl rfl ?_
          refine w_iload dX3_change_45 rfl ?_
          refine w_iload dX3_change_47 rfl ?_
          refine v_iast dX3_change_49 ⟨by decide, rfl⟩ (by omega) (by omega) (by decide) ?_
          refine w_aload_n dX3_change_50 rfl ?_
          refine v_getR (j := 150) dX3_change_51 fX3_15 ⟨by decide, rfl⟩ rfl rfl ?_
          refine w_iload dX3_change_54 rfl ?_
          refine w_dup2 dX3_change_56 rfl rfl ?_
          refine v_iald dX3_change_57 ⟨by decide, rfl⟩ (by omega) (by omega) (by decide) (fun z57 e57 b57 => ?_)
          refine w_iload_n dX3_change_58 rfl ?_
          refine v_iadd dX3_change_59 ?_
          refine v_iast dX3_change_60 ⟨by decide, rfl⟩ (by omega) (by omega) (by decide) ?_
          refine v_iinc dX3_change_61 rfl rfl rfl ?_
          refine w_goto 3 dX3_change_64 (by decide) ?_
          refine w_keep 5 ?_
          refine ih (k + 1) _ (by omega) (by omega) ?_
          intro id l
          first
            | (have e0 : z57 = rd I 150 (fm + k).toNat := by
                 rw [e57, rd_wr_row (by decide), hI 150 (fm + k).toNat, if_neg (by omega), if_neg (by omega)]
               have e00 := htl (fm + k).toNat (by omega)
               rw [rd_wr (by omega) (by omega), rd_wr (by omega) (by omega)]
               by_cases g : l = (fm + k).toNat
               · have g2 : (l : Int) - fm = k := by omega
                 have e1 : z57 = rd I 150 l := by rw [g]; exact e0
                 by_cases g5 : id = 149
                 · subst g5
                   rw [if_neg (by omega), if_pos ⟨rfl, g⟩, if_pos ⟨rfl, by rw [g2, ← f16]; omega⟩, g2]
                   exact f16
                 · by_cases g6 : id = 150
                   · subst g6
                     rw [if_pos ⟨rfl, g⟩, if_neg (by omega), if_pos ⟨rfl, by rw [g2, ← f16]; omega⟩, e1]
                   · rw [if_neg (by omega), if_neg (by omega), hI id l, if_neg (by omega), if_neg (by omega), if_neg (by omega), if_neg (by omega)]
               · rw [if_neg (by omega), if_neg (by omega), hI id l]
                 have e2 : (0 ≤ (l : Int) - fm ∧ (l : Int) - fm < (k : Int)) ↔ (0 ≤ (l : Int) - fm ∧ (l : Int) - fm < ((k + 1 : Nat) : Int)) := by omega
                 simp only [← and_assoc, e2])
            | (rw [hI id l]
               by_cases g : (l : Int) - fm = k
               · have e3 : ¬ (l < 32 ∧ tF I (bI b 10) (bI b 11) 10 ((l : Int) - fm) ≠ 0) := by
                   rw [g, ← f16]; omega
                 rw [if_neg (by omega), if_neg (by omega), if_neg (by omega), if_neg (by omega)]
               · have e2 : (0 ≤ (l : Int) - fm ∧ (l : Int) - fm < (k : Int)) ↔ (0 ≤ (l : Int) - fm ∧ (l : Int) - fm < ((k + 1 : Nat) : Int)) := by omega
                 simp only [← and_assoc, e2])
        · refine v_if_eq 61 dX3_change_38 (by decide) (by decide) (fun _ => ?_) (fun q => absurd q (by decide))
          refine v_iinc dX3_change_61 rfl rfl rfl ?_
          refine w_goto 3 dX3_change_64 (by decide) ?_
          refine w_keep 5 ?_
          refine ih (k + 1) _ (by omega) (by omega) ?_
          intro id l
          first
            | (have e0 : z57 = rd I 150 (fm + k).toNat := by
                 rw [e57, rd_wr_row (by decide), hI 150 (fm + k).toNat, if_neg (by omega), if_neg (by omega)]
               have e00 := htl (fm + k).toNat (by omega)
               rw [rd_wr (by omega) (by omega), rd_wr (by omega) (by omega)]
               by_cases g : l = (fm + k).toNat
               · have g2 : (l : Int) - fm = k := by omega
                 have e1 : z57 = rd I 150 l := by rw [g]; exact e0
                 by_cases g5 : id = 149
                 · subst g5
                   rw [if_neg (by omega), if_pos ⟨rfl, g⟩, if_pos ⟨rfl, by rw [g2, ← f16]; omega⟩, g2]
                   exact f16
                 · by_cases g6 : id = 150
                   · subst g6
                     rw [if_pos ⟨rfl, g⟩, if_neg (by omega), if_pos ⟨rfl, by rw [g2, ← f16]; omega⟩, e1]
                   · rw [if_neg (by omega), if_neg (by omega), hI id l, if_neg (by omega), if_neg (by omega), if_neg (by omega), if_neg (by omega)]
               · rw [if_neg (by omega), if_neg (by omega), hI id l]
                 have e2 : (0 ≤ (l : Int) - fm ∧ (l : Int) - fm < (k : Int)) ↔ (0 ≤ (l : Int) - fm ∧ (l : Int) - fm < ((k + 1 : Nat) : Int)) := by omega
                 simp only [← and_assoc, e2])
            | (rw [hI id l]
               by_cases g : (l : Int) - fm = k
               · have e3 : ¬ (l < 32 ∧ tF I (bI b 10) (bI b 11) 10 ((l : Int) - fm) ≠ 0) := by
                   rw [g, ← f16]; omega
                 rw [if_neg (by omega), if_neg (by omega), if_neg (by omega), if_neg (by omega)]
               · have e2 : (0 ≤ (l : Int) - fm ∧ (l : Int) - fm < (k : Int)) ↔ (0 ≤ (l : Int) - fm ∧ (l : Int) - fm < ((k + 1 : Nat) : Int)) := by omega
                 simp only [← and_assoc, e2])
theorem x3_change_d {I : Nat → Nat → Int32} {J : Nat → Nat → Int64} {F : Option Value → zM → Prop} {b : Nat} (hb : b < 10) {fm ch : Int} (hfm : -1000 ≤ fm ∧ fm ≤ 1000) (hch : -1 ≤ ch ∧ ch ≤ 1) (htl : ∀ l : Nat, l < 32 → 0 ≤ rd I 150 l ∧ rd I 150 l ≤ 1000) (h : ∀ I', (∀ id l, rd I' id l = if id = 149 ∧ (0 ≤ (l : Int) - fm ∧ (l : Int) - fm < 10 ∧ l < 32 ∧ tF I (bI b 10) (bI b 11) 10 ((l : Int) - fm) ≠ 0) then tF I (bI b 10) (bI b 11) 10 ((l : Int) - fm) else if id = 150 ∧ (0 ≤ (l : Int) - fm ∧ (l : Int) - fm < 10 ∧ l < 32 ∧ tF I (bI b 10) (bI b 11) 10 ((l : Int) - fm) ≠ 0) then rd I 150 l + ch else rd I id l) → F none (gM I' J)) : Cl yX3_change kX3_change [.ref 148, .ref (bI b 9), .int (iI fm), .int (iI ch)] (gM I J) F := by
  refine cl_s (by decide) (by decide) (Nat.le_of_ble_eq_true rfl) rt_v ?_
  show Wp _ F 0 [(0, .ref 148), (1, .ref (bI b 9)), (2, .int (iI fm)), (3, .int (iI ch))] [] _
  refine w_iconst (v := iI 0) dX3_change_0 rfl ?_
  refine w_istore dX3_change_1 rfl rfl ?_
  exact x3_change_d_l hb hfm hch htl h 11 0 I (by omega) (by omega) (fun id l => by rw [if_neg (by omega), if_neg (by omega)])
theorem x3_pairsWorth_d_l {I : Nat → Nat → Int32} {J : Nat → Nat → Int64} {F : Option Value → zM → Prop} (h : F (some (.int (iI (smN (fun l => rd I 150 l * (rd I 150 l - 1)) 32)))) (gM I J)) : ∀ (n : Nat) (k : Nat) (acc : Int), 32 - k < n → k ≤ 32 → acc = smN (fun l => rd I 150 l * (rd I 150 l - 1)) k → Wp (sE kX3_pairsWorth RX3) F 4 [(0, .ref 148), (1, .int (iI acc)), (2, .int (iI (k : Int)))] [] (gM I J) := by
  intro n
  induction n with
  | zero =>
    intro k acc hn hk ha
    exact absurd hn (Nat.not_lt_zero _)
  | succ n ih =>
    intro k acc hn hk ha
    refine w_iload_n dX3_pairsWorth_4 rfl ?_
    refine w_aload_n dX3_pairsWorth_5 rfl ?_
    refine v_getR (j := 150) dX3_pairsWorth_6 fX3_15 ⟨by decide, rfl⟩ rfl rfl ?_
    refine v_alen0 dX3_pairsWorth_9 ⟨by decide, rfl⟩ ?_
    refine v_icmp_ge 37 dX3_pairsWorth_10 (by decide) (by omega) (by omega) (fun c10 => ?_) (fun c10 => ?_)
    · refine w_iload_n dX3_pairsWorth_37 rfl ?_
      refine v_iret dX3_pairsWorth_38 rfl ⟨rfl, rfl⟩ ?_
      have hk2 : k = 32 := by omega
      subst hk2
      rw [ha]
      exact h
    · refine w_iload_n dX3_pairsWorth_13 rfl ?_
      refine w_aload_n dX3_pairsWorth_14 rfl ?_
      refine v_getR (j := 150) dX3_pairsWorth_15 fX3_15 ⟨by decide, rfl⟩ rfl rfl ?_
      refine w_iload_n dX3_pairsWorth_18 rfl ?_
      refine v_iald dX3_pairsWorth_19 ⟨by decide, rfl⟩ (by omega) (by omega) (by decide) (fun z19 e19 b19 => ?_)
      refine w_aload_n dX3_pairsWorth_20 rfl ?_
      refine v_getR (j := 150) dX3_pairsWorth_21 fX3_15 ⟨by decide, rfl⟩ rfl rfl ?_
      refine w_iload_n dX3_pairsWorth_24 rfl ?_
      refine v_iald dX3_pairsWorth_25 ⟨by decide, rfl⟩ (by omega) (by omega) (by decide) (fun z25 e25 b25 => ?_)
      refine w_iconst (v := iI 1) dX3_pairsWorth_26 rfl ?_
      refine v_isub dX3_pairsWorth_27 ?_
      refine v_imul dX3_pairsWorth_28 ?_
      refine v_iadd dX3_pairsWorth_29 ?_
      refine w_istore_n dX3_pairsWorth_30 rfl rfl ?_
      refine v_iinc dX3_pairsWorth_31 rfl rfl rfl ?_
      refine w_goto 4 dX3_pairsWorth_34 (by decide) ?_
      refine ih (k + 1) _ (by omega) (by omega) ?_
      rw [smN, ← ha, e19, e25]
      simp only [Int.toNat_natCast]
theorem x3_pairsWorth_d {I : Nat → Nat → Int32} {J : Nat → Nat → Int64} {F : Option Value → zM → Prop} (h : F (some (.int (iI (smN (fun l => rd I 150 l * (rd I 150 l - 1)) 32)))) (gM I J)) : Cl yX3_pairsWorth kX3_pairsWorth [.ref 148] (gM I J) F := by
  refine cl_s (by decide) (by decide) (Nat.le_of_ble_eq_true rfl) rt_i ?_
  show Wp _ F 0 [(0, .ref 148)] [] _
  refine w_iconst (v := iI 0) dX3_pairsWorth_0 rfl ?_
  refine w_istore_n dX3_pairsWorth_1 rfl rfl ?_
  refine w_iconst (v := iI 0) dX3_pairsWorth_2 rfl ?_
  refine w_istore_n dX3_pairsWorth_3 rfl rfl ?_
  exact x3_pairsWorth_d_l h 33 0 0 (by omega) (by omega) rfl
end
