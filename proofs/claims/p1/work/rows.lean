section
-- ===== PART A: goes FIRST, ahead of the names: the tables' words, and 'selects' of the private methods out of them =====
/-- a private method of a class that the tables say can be made, by its rows of tables_1 -/
def lw_okq (q : MethodName × Nat) : Prop := (q.1.cls ≠ "java/lang/invoke/MethodHandle" ∧ q.1.cls ≠ "java/lang/invoke/VarHandle") ∧ Cond.instantiable q.1.cls q.2 ∈ tables_1 ∧ Cond.privateMethod q.1 ∈ tables_1 ∧ Cond.instanceMethod q.1 ∈ tables_1
theorem lw_p0 : lw_okq (⟨"PitForge$Ground", "wasAhead", "(II)Z"⟩, 4) := ⟨⟨by decide +kernel, by decide +kernel⟩, List.mem_of_getElem? (i := 53) (by decide +kernel), List.mem_of_getElem? (i := 378) (by decide +kernel), List.mem_of_getElem? (i := 379) (by decide +kernel)⟩
theorem lw_p1 : lw_okq (⟨"java/lang/Throwable", "fillInStackTrace", "(I)Ljava/lang/Throwable;"⟩, 6) := ⟨⟨by decide +kernel, by decide +kernel⟩, List.mem_of_getElem? (i := 424) (by decide +kernel), List.mem_of_getElem? (i := 422) (by decide +kernel), List.mem_of_getElem? (i := 423) (by decide +kernel)⟩
theorem lw_p2 : lw_okq (⟨"PitForge", "requireUndug", "(I)V"⟩, 9) := ⟨⟨by decide +kernel, by decide +kernel⟩, List.mem_of_getElem? (i := 45) (by decide +kernel), List.mem_of_getElem? (i := 509) (by decide +kernel), List.mem_of_getElem? (i := 510) (by decide +kernel)⟩
theorem lw_p3 : lw_okq (⟨"PitForge$Ore", "meanFor", "(I)D"⟩, 4) := ⟨⟨by decide +kernel, by decide +kernel⟩, List.mem_of_getElem? (i := 75) (by decide +kernel), List.mem_of_getElem? (i := 604) (by decide +kernel), List.mem_of_getElem? (i := 605) (by decide +kernel)⟩
theorem lw_p4 : lw_okq (⟨"PitForge$Ore", "meanByDistance", "(I)D"⟩, 4) := ⟨⟨by decide +kernel, by decide +kernel⟩, List.mem_of_getElem? (i := 75) (by decide +kernel), List.mem_of_getElem? (i := 608) (by decide +kernel), List.mem_of_getElem? (i := 609) (by decide +kernel)⟩
theorem lw_p5 : lw_okq (⟨"PitForge$PitSearch", "measure", "(II)V"⟩, 10) := ⟨⟨by decide +kernel, by decide +kernel⟩, List.mem_of_getElem? (i := 95) (by decide +kernel), List.mem_of_getElem? (i := 666) (by decide +kernel), List.mem_of_getElem? (i := 667) (by decide +kernel)⟩
theorem lw_p6 : lw_okq (⟨"PitForge$PitSearch", "joinLeft", "(I)V"⟩, 10) := ⟨⟨by decide +kernel, by decide +kernel⟩, List.mem_of_getElem? (i := 95) (by decide +kernel), List.mem_of_getElem? (i := 677) (by decide +kernel), List.mem_of_getElem? (i := 678) (by decide +kernel)⟩
theorem lw_p7 : lw_okq (⟨"PitForge$PitSearch", "bestDepth", "(III)I"⟩, 10) := ⟨⟨by decide +kernel, by decide +kernel⟩, List.mem_of_getElem? (i := 95) (by decide +kernel), List.mem_of_getElem? (i := 681) (by decide +kernel), List.mem_of_getElem? (i := 682) (by decide +kernel)⟩
theorem lw_p8 : lw_okq (⟨"PitForge$PitSearch", "readDepths", "(I)V"⟩, 10) := ⟨⟨by decide +kernel, by decide +kernel⟩, List.mem_of_getElem? (i := 95) (by decide +kernel), List.mem_of_getElem? (i := 685) (by decide +kernel), List.mem_of_getElem? (i := 686) (by decide +kernel)⟩
theorem lw_p9 : lw_okq (⟨"PitForge$PitSearch", "markNeeded", "(I)V"⟩, 10) := ⟨⟨by decide +kernel, by decide +kernel⟩, List.mem_of_getElem? (i := 95) (by decide +kernel), List.mem_of_getElem? (i := 721) (by decide +kernel), List.mem_of_getElem? (i := 722) (by decide +kernel)⟩
theorem lw_p10 : lw_okq (⟨"PitForge$Phases", "numberFound", "(I)V"⟩, 6) := ⟨⟨by decide +kernel, by decide +kernel⟩, List.mem_of_getElem? (i := 136) (by decide +kernel), List.mem_of_getElem? (i := 761) (by decide +kernel), List.mem_of_getElem? (i := 762) (by decide +kernel)⟩
theorem lw_p11 : lw_okq (⟨"PitForge", "passWeek", "()V"⟩, 9) := ⟨⟨by decide +kernel, by decide +kernel⟩, List.mem_of_getElem? (i := 45) (by decide +kernel), List.mem_of_getElem? (i := 808) (by decide +kernel), List.mem_of_getElem? (i := 809) (by decide +kernel)⟩
theorem lw_p12 : lw_okq (⟨"PitForge", "dryLevels", "()I"⟩, 9) := ⟨⟨by decide +kernel, by decide +kernel⟩, List.mem_of_getElem? (i := 45) (by decide +kernel), List.mem_of_getElem? (i := 816) (by decide +kernel), List.mem_of_getElem? (i := 817) (by decide +kernel)⟩
theorem lw_p13 : lw_okq (⟨"PitForge", "nextBlock", "(I)I"⟩, 9) := ⟨⟨by decide +kernel, by decide +kernel⟩, List.mem_of_getElem? (i := 45) (by decide +kernel), List.mem_of_getElem? (i := 827) (by decide +kernel), List.mem_of_getElem? (i := 828) (by decide +kernel)⟩
theorem lw_p14 : lw_okq (⟨"PitForge", "digOut", "(I)V"⟩, 9) := ⟨⟨by decide +kernel, by decide +kernel⟩, List.mem_of_getElem? (i := 45) (by decide +kernel), List.mem_of_getElem? (i := 831) (by decide +kernel), List.mem_of_getElem? (i := 832) (by decide +kernel)⟩
theorem lw_p15 : lw_okq (⟨"PitForge", "haul", "(II)V"⟩, 9) := ⟨⟨by decide +kernel, by decide +kernel⟩, List.mem_of_getElem? (i := 45) (by decide +kernel), List.mem_of_getElem? (i := 844) (by decide +kernel), List.mem_of_getElem? (i := 845) (by decide +kernel)⟩
def lw_privs_1 : List (MethodName × Nat) := [(⟨"PitForge$Ground", "wasAhead", "(II)Z"⟩, 4), (⟨"java/lang/Throwable", "fillInStackTrace", "(I)Ljava/lang/Throwable;"⟩, 6), (⟨"PitForge", "requireUndug", "(I)V"⟩, 9), (⟨"PitForge$Ore", "meanFor", "(I)D"⟩, 4), (⟨"PitForge$Ore", "meanByDistance", "(I)D"⟩, 4), (⟨"PitForge$PitSearch", "measure", "(II)V"⟩, 10), (⟨"PitForge$PitSearch", "joinLeft", "(I)V"⟩, 10), (⟨"PitForge$PitSearch", "bestDepth", "(III)I"⟩, 10), (⟨"PitForge$PitSearch", "readDepths", "(I)V"⟩, 10), (⟨"PitForge$PitSearch", "markNeeded", "(I)V"⟩, 10), (⟨"PitForge$Phases", "numberFound", "(I)V"⟩, 6), (⟨"PitForge", "passWeek", "()V"⟩, 9), (⟨"PitForge", "dryLevels", "()I"⟩, 9), (⟨"PitForge", "nextBlock", "(I)I"⟩, 9), (⟨"PitForge", "digOut", "(I)V"⟩, 9), (⟨"PitForge", "haul", "(II)V"⟩, 9)]
theorem lw_r1 : ∀ q ∈ lw_privs_1, lw_okq q := List.forall_mem_cons.mpr ⟨lw_p0, List.forall_mem_cons.mpr ⟨lw_p1, List.forall_mem_cons.mpr ⟨lw_p2, List.forall_mem_cons.mpr ⟨lw_p3, List.forall_mem_cons.mpr ⟨lw_p4, List.forall_mem_cons.mpr ⟨lw_p5, List.forall_mem_cons.mpr ⟨lw_p6, List.forall_mem_cons.mpr ⟨lw_p7, List.forall_mem_cons.mpr ⟨lw_p8, List.forall_mem_cons.mpr ⟨lw_p9, List.forall_mem_cons.mpr ⟨lw_p10, List.forall_mem_cons.mpr ⟨lw_p11, List.forall_mem_cons.mpr ⟨lw_p12, List.forall_mem_cons.mpr ⟨lw_p13, List.forall_mem_cons.mpr ⟨lw_p14, List.forall_mem_cons.mpr ⟨lw_p15, fun _ h => absurd h List.not_mem_nil⟩⟩⟩⟩⟩⟩⟩⟩⟩⟩⟩⟩⟩⟩⟩⟩
theorem lw_p16 : lw_okq (⟨"PitForge", "feedFromPile", "()V"⟩, 9) := ⟨⟨by decide +kernel, by decide +kernel⟩, List.mem_of_getElem? (i := 45) (by decide +kernel), List.mem_of_getElem? (i := 860) (by decide +kernel), List.mem_of_getElem? (i := 861) (by decide +kernel)⟩
theorem lw_p17 : lw_okq (⟨"PitForge$Pile", "heapUp", "()V"⟩, 7) := ⟨⟨by decide +kernel, by decide +kernel⟩, List.mem_of_getElem? (i := 172) (by decide +kernel), List.mem_of_getElem? (i := 868) (by decide +kernel), List.mem_of_getElem? (i := 869) (by decide +kernel)⟩
theorem lw_p18 : lw_okq (⟨"PitForge$Pile", "giveOfHeap", "()I"⟩, 7) := ⟨⟨by decide +kernel, by decide +kernel⟩, List.mem_of_getElem? (i := 172) (by decide +kernel), List.mem_of_getElem? (i := 874) (by decide +kernel), List.mem_of_getElem? (i := 875) (by decide +kernel)⟩
theorem lw_p19 : lw_okq (⟨"PitForge$Pile", "giveLayer", "()I"⟩, 7) := ⟨⟨by decide +kernel, by decide +kernel⟩, List.mem_of_getElem? (i := 172) (by decide +kernel), List.mem_of_getElem? (i := 878) (by decide +kernel), List.mem_of_getElem? (i := 879) (by decide +kernel)⟩
theorem lw_p20 : lw_okq (⟨"PitForge$Plant", "recoveryAt", "(D)I"⟩, 9) := ⟨⟨by decide +kernel, by decide +kernel⟩, List.mem_of_getElem? (i := 201) (by decide +kernel), List.mem_of_getElem? (i := 886) (by decide +kernel), List.mem_of_getElem? (i := 887) (by decide +kernel)⟩
theorem lw_p21 : lw_okq (⟨"PitForge", "requireDug", "(I)V"⟩, 9) := ⟨⟨by decide +kernel, by decide +kernel⟩, List.mem_of_getElem? (i := 45) (by decide +kernel), List.mem_of_getElem? (i := 910) (by decide +kernel), List.mem_of_getElem? (i := 911) (by decide +kernel)⟩
theorem lw_p22 : lw_okq (⟨"java/util/ArrayList", "add", "(Ljava/lang/Object;[Ljava/lang/Object;I)V"⟩, 3) := ⟨⟨by decide +kernel, by decide +kernel⟩, List.mem_of_getElem? (i := 1001) (by decide +kernel), List.mem_of_getElem? (i := 1064) (by decide +kernel), List.mem_of_getElem? (i := 1065) (by decide +kernel)⟩
theorem lw_p23 : lw_okq (⟨"java/util/ArrayList", "grow", "()[Ljava/lang/Object;"⟩, 3) := ⟨⟨by decide +kernel, by decide +kernel⟩, List.mem_of_getElem? (i := 1001) (by decide +kernel), List.mem_of_getElem? (i := 1068) (by decide +kernel), List.mem_of_getElem? (i := 1069) (by decide +kernel)⟩
theorem lw_p24 : lw_okq (⟨"java/util/ArrayList", "grow", "(I)[Ljava/lang/Object;"⟩, 3) := ⟨⟨by decide +kernel, by decide +kernel⟩, List.mem_of_getElem? (i := 1001) (by decide +kernel), List.mem_of_getElem? (i := 1072) (by decide +kernel), List.mem_of_getElem? (i := 1073) (by decide +kernel)⟩
theorem lw_p25 : lw_okq (⟨"PitForgeModel", "isWrong", "(I)Z"⟩, 23) := ⟨⟨by decide +kernel, by decide +kernel⟩, List.mem_of_getElem? (i := 995) (by decide +kernel), List.mem_of_getElem? (i := 1227) (by decide +kernel), List.mem_of_getElem? (i := 1228) (by decide +kernel)⟩
theorem lw_p26 : lw_okq (⟨"PitForgeModel", "gradeOf", "(I)I"⟩, 23) := ⟨⟨by decide +kernel, by decide +kernel⟩, List.mem_of_getElem? (i := 995) (by decide +kernel), List.mem_of_getElem? (i := 1267) (by decide +kernel), List.mem_of_getElem? (i := 1268) (by decide +kernel)⟩
theorem lw_p27 : lw_okq (⟨"PitForgeModel", "worthOf", "(II)I"⟩, 23) := ⟨⟨by decide +kernel, by decide +kernel⟩, List.mem_of_getElem? (i := 995) (by decide +kernel), List.mem_of_getElem? (i := 1370) (by decide +kernel), List.mem_of_getElem? (i := 1371) (by decide +kernel)⟩
theorem lw_p28 : lw_okq (⟨"PitForgeModel", "liesFree", "(I)Z"⟩, 23) := ⟨⟨by decide +kernel, by decide +kernel⟩, List.mem_of_getElem? (i := 995) (by decide +kernel), List.mem_of_getElem? (i := 1382) (by decide +kernel), List.mem_of_getElem? (i := 1383) (by decide +kernel)⟩
theorem lw_p29 : lw_okq (⟨"PitForgeModel", "above", "(I)Ljava/util/List;"⟩, 23) := ⟨⟨by decide +kernel, by decide +kernel⟩, List.mem_of_getElem? (i := 995) (by decide +kernel), List.mem_of_getElem? (i := 1386) (by decide +kernel), List.mem_of_getElem? (i := 1387) (by decide +kernel)⟩
theorem lw_p30 : lw_okq (⟨"PitForgeModel$Flow", "way", "()[I"⟩, 3) := ⟨⟨by decide +kernel, by decide +kernel⟩, List.mem_of_getElem? (i := 1423) (by decide +kernel), List.mem_of_getElem? (i := 1444) (by decide +kernel), List.mem_of_getElem? (i := 1445) (by decide +kernel)⟩
theorem lw_p31 : lw_okq (⟨"PitForgeModel", "phasesNow", "()[I"⟩, 23) := ⟨⟨by decide +kernel, by decide +kernel⟩, List.mem_of_getElem? (i := 995) (by decide +kernel), List.mem_of_getElem? (i := 1496) (by decide +kernel), List.mem_of_getElem? (i := 1497) (by decide +kernel)⟩
def lw_privs_2 : List (MethodName × Nat) := [(⟨"PitForge", "feedFromPile", "()V"⟩, 9), (⟨"PitForge$Pile", "heapUp", "()V"⟩, 7), (⟨"PitForge$Pile", "giveOfHeap", "()I"⟩, 7), (⟨"PitForge$Pile", "giveLayer", "()I"⟩, 7), (⟨"PitForge$Plant", "recoveryAt", "(D)I"⟩, 9), (⟨"PitForge", "requireDug", "(I)V"⟩, 9), (⟨"java/util/ArrayList", "add", "(Ljava/lang/Object;[Ljava/lang/Object;I)V"⟩, 3), (⟨"java/util/ArrayList", "grow", "()[Ljava/lang/Object;"⟩, 3), (⟨"java/util/ArrayList", "grow", "(I)[Ljava/lang/Object;"⟩, 3), (⟨"PitForgeModel", "isWrong", "(I)Z"⟩, 23), (⟨"PitForgeModel", "gradeOf", "(I)I"⟩, 23), (⟨"PitForgeModel", "worthOf", "(II)I"⟩, 23), (⟨"PitForgeModel", "liesFree", "(I)Z"⟩, 23), (⟨"PitForgeModel", "above", "(I)Ljava/util/List;"⟩, 23), (⟨"PitForgeModel$Flow", "way", "()[I"⟩, 3), (⟨"PitForgeModel", "phasesNow", "()[I"⟩, 23)]
theorem lw_r2 : ∀ q ∈ lw_privs_2, lw_okq q := List.forall_mem_cons.mpr ⟨lw_p16, List.forall_mem_cons.mpr ⟨lw_p17, List.forall_mem_cons.mpr ⟨lw_p18, List.forall_mem_cons.mpr ⟨lw_p19, List.forall_mem_cons.mpr ⟨lw_p20, List.forall_mem_cons.mpr ⟨lw_p21, List.forall_mem_cons.mpr ⟨lw_p22, List.forall_mem_cons.mpr ⟨lw_p23, List.forall_mem_cons.mpr ⟨lw_p24, List.forall_mem_cons.mpr ⟨lw_p25, List.forall_mem_cons.mpr ⟨lw_p26, List.forall_mem_cons.mpr ⟨lw_p27, List.forall_mem_cons.mpr ⟨lw_p28, List.forall_mem_cons.mpr ⟨lw_p29, List.forall_mem_cons.mpr ⟨lw_p30, List.forall_mem_cons.mpr ⟨lw_p31, fun _ h => absurd h List.not_mem_nil⟩⟩⟩⟩⟩⟩⟩⟩⟩⟩⟩⟩⟩⟩⟩⟩
theorem lw_p32 : lw_okq (⟨"PitForgeModel", "dug", "()I"⟩, 23) := ⟨⟨by decide +kernel, by decide +kernel⟩, List.mem_of_getElem? (i := 995) (by decide +kernel), List.mem_of_getElem? (i := 1600) (by decide +kernel), List.mem_of_getElem? (i := 1601) (by decide +kernel)⟩
theorem lw_p33 : lw_okq (⟨"PitForgeModel", "aWeek", "()V"⟩, 23) := ⟨⟨by decide +kernel, by decide +kernel⟩, List.mem_of_getElem? (i := 995) (by decide +kernel), List.mem_of_getElem? (i := 1604) (by decide +kernel), List.mem_of_getElem? (i := 1605) (by decide +kernel)⟩
theorem lw_p34 : lw_okq (⟨"PitForgeModel", "flooded", "()I"⟩, 23) := ⟨⟨by decide +kernel, by decide +kernel⟩, List.mem_of_getElem? (i := 995) (by decide +kernel), List.mem_of_getElem? (i := 1608) (by decide +kernel), List.mem_of_getElem? (i := 1609) (by decide +kernel)⟩
theorem lw_p35 : lw_okq (⟨"PitForgeModel", "toldOf", "(C)I"⟩, 23) := ⟨⟨by decide +kernel, by decide +kernel⟩, List.mem_of_getElem? (i := 995) (by decide +kernel), List.mem_of_getElem? (i := 1612) (by decide +kernel), List.mem_of_getElem? (i := 1613) (by decide +kernel)⟩
theorem lw_p36 : lw_okq (⟨"PitForgeModel", "next", "(I[I)I"⟩, 23) := ⟨⟨by decide +kernel, by decide +kernel⟩, List.mem_of_getElem? (i := 995) (by decide +kernel), List.mem_of_getElem? (i := 1616) (by decide +kernel), List.mem_of_getElem? (i := 1617) (by decide +kernel)⟩
theorem lw_p37 : lw_okq (⟨"PitForgeModel", "digs", "(ILjava/util/List;I)V"⟩, 23) := ⟨⟨by decide +kernel, by decide +kernel⟩, List.mem_of_getElem? (i := 995) (by decide +kernel), List.mem_of_getElem? (i := 1620) (by decide +kernel), List.mem_of_getElem? (i := 1621) (by decide +kernel)⟩
theorem lw_p38 : lw_okq (⟨"PitForgeModel", "given", "()I"⟩, 23) := ⟨⟨by decide +kernel, by decide +kernel⟩, List.mem_of_getElem? (i := 995) (by decide +kernel), List.mem_of_getElem? (i := 1624) (by decide +kernel), List.mem_of_getElem? (i := 1625) (by decide +kernel)⟩
theorem lw_p39 : lw_okq (⟨"java/util/ArrayList", "fastRemove", "([Ljava/lang/Object;I)V"⟩, 3) := ⟨⟨by decide +kernel, by decide +kernel⟩, List.mem_of_getElem? (i := 1001) (by decide +kernel), List.mem_of_getElem? (i := 1637) (by decide +kernel), List.mem_of_getElem? (i := 1638) (by decide +kernel)⟩
theorem lw_p40 : lw_okq (⟨"PitForgeModel", "mills", "(Ljava/util/List;)V"⟩, 23) := ⟨⟨by decide +kernel, by decide +kernel⟩, List.mem_of_getElem? (i := 995) (by decide +kernel), List.mem_of_getElem? (i := 1642) (by decide +kernel), List.mem_of_getElem? (i := 1643) (by decide +kernel)⟩
theorem lw_p41 : lw_okq (⟨"PitForgeModel", "isNotDug", "(I)Z"⟩, 23) := ⟨⟨by decide +kernel, by decide +kernel⟩, List.mem_of_getElem? (i := 995) (by decide +kernel), List.mem_of_getElem? (i := 1666) (by decide +kernel), List.mem_of_getElem? (i := 1667) (by decide +kernel)⟩
def lw_privs_3 : List (MethodName × Nat) := [(⟨"PitForgeModel", "dug", "()I"⟩, 23), (⟨"PitForgeModel", "aWeek", "()V"⟩, 23), (⟨"PitForgeModel", "flooded", "()I"⟩, 23), (⟨"PitForgeModel", "toldOf", "(C)I"⟩, 23), (⟨"PitForgeModel", "next", "(I[I)I"⟩, 23), (⟨"PitForgeModel", "digs", "(ILjava/util/List;I)V"⟩, 23), (⟨"PitForgeModel", "given", "()I"⟩, 23), (⟨"java/util/ArrayList", "fastRemove", "([Ljava/lang/Object;I)V"⟩, 3), (⟨"PitForgeModel", "mills", "(Ljava/util/List;)V"⟩, 23), (⟨"PitForgeModel", "isNotDug", "(I)Z"⟩, 23)]
theorem lw_r3 : ∀ q ∈ lw_privs_3, lw_okq q := List.forall_mem_cons.mpr ⟨lw_p32, List.forall_mem_cons.mpr ⟨lw_p33, List.forall_mem_cons.mpr ⟨lw_p34, List.forall_mem_cons.mpr ⟨lw_p35, List.forall_mem_cons.mpr ⟨lw_p36, List.forall_mem_cons.mpr ⟨lw_p37, List.forall_mem_cons.mpr ⟨lw_p38, List.forall_mem_cons.mpr ⟨lw_p39, List.forall_mem_cons.mpr ⟨lw_p40, List.forall_mem_cons.mpr ⟨lw_p41, fun _ h => absurd h List.not_mem_nil⟩⟩⟩⟩⟩⟩⟩⟩⟩⟩
def lw_privs : List (MethodName × Nat) := lw_privs_1 ++ (lw_privs_2 ++ (lw_privs_3))
def lw_tbl : List Cond := k2_sels lw_privs ++ tables_1
theorem lw_privs_ok : ∀ q ∈ lw_privs, lw_okq q := by
  show ∀ q ∈ lw_privs_1 ++ (lw_privs_2 ++ (lw_privs_3)), lw_okq q
  exact List.forall_mem_append.mpr ⟨lw_r1, List.forall_mem_append.mpr ⟨lw_r2, lw_r3⟩⟩
/-- the streams that the claim lets the run draw from -/
abbrev lw_cs : List Choice := [Jvm.Choice.named "NaN.bits", Jvm.Choice.named "NaN.copy"]
theorem lw_bits : nanBits ∈ lw_cs := by first | decide | exact List.mem_cons_self | simp [lw_cs, nanBits]
-- ===== end of PART A; then your names; then what follows =====
end
section
/-- the tables say what new T[n][] makes -/
def va_AOA (ty : FieldType) (U : State) : Prop := (Cond.arrayOver (.array ty)).before #[] U = true
theorem va_AOA.use {ty : FieldType} {A : Array Value} {U : State} (h : va_AOA ty U) : (Cond.arrayOver (.array ty)).before A U = true := h
end
section
/-! ===== BEGIN words of one list among another's, by their places ===== -/
theorem goodIn_r {big : List Cond} (ws : List Cond) (ps : List Nat) (hp : ws = ps.filterMap (fun i => big[i]?)) (h : ws.all goodWord = true) : GoodIn big ws := by
  intro w hw
  have h1 := List.all_eq_true.mp h w hw
  rw [hp] at hw
  obtain ⟨i, -, hi⟩ := List.mem_filterMap.mp hw
  have hm : w ∈ big := by first | exact List.mem_of_getElem? hi | exact List.getElem?_mem hi
  exact ⟨hm, good_of_word h1⟩
theorem goodIn_app {big a b : List Cond} (ha : GoodIn big a) (hb : GoodIn big b) : GoodIn big (a ++ b) := fun w h => (List.mem_append.mp h).elim (ha w) (hb w)
theorem goodIn_ca {big a b : List Cond} {c : Cond} (ha : GoodIn big (c :: a)) (hb : GoodIn big b) : GoodIn big (c :: (a ++ b)) := fun w h => (List.mem_cons.mp h).elim (fun e => ha w (List.mem_cons.mpr (Or.inl e))) (fun h => (List.mem_append.mp h).elim (fun h => ha w (List.mem_cons.mpr (Or.inr h))) (hb w))
theorem goodIn_sub {big ws : List Cond} (hm : ∀ w ∈ ws, w ∈ big) (h : ws.all goodWord = true) : GoodIn big ws := fun w hw => ⟨hm w hw, good_of_word (List.all_eq_true.mp h w hw)⟩
/-! ===== END ===== -/

/-! ===== BEGIN new T[n][m]: the outer array a place, the inner ones among the pooled ===== -/
/-- f, but v at every address of l -/
def vr_up {α : Type} (f : Nat → α) (l : List Nat) (v : α) : Nat → α := fun a => if a ∈ l then v else f a
theorem vr_up_in {α : Type} {f : Nat → α} {l : List Nat} {v : α} {a : Nat} (h : a ∈ l) : vr_up f l v a = v := if_pos h
theorem vr_up_ne {α : Type} {f : Nat → α} {l : List Nat} {v : α} {a : Nat} (h : a ∉ l) : vr_up f l v a = f a := if_neg h
theorem vr_rows {L l : List Nat} {f : Nat → va_E} {e : va_E} (h : ∀ a, a ∈ l → a ∉ L) : va_pl L f ++ l.map (fun a => (a, e)) = va_pl (L ++ l) (vr_up f l e) := by
  unfold va_pl
  rw [List.map_append]
  congr 1
  · apply List.map_congr_left
    intro a ha
    rw [vr_up_ne (fun q => h a q ha)]
  · apply List.map_congr_left
    intro a ha
    rw [vr_up_in ha]
theorem vr_lay {X rows : va_W} {x : Nat × va_E} {pl : va_W} {D : va_G} {cl : List vw_C} {H : Heap} (hP : va_P D cl (((X ++ pl) ++ [x]) ++ rows) H) : va_P D cl ((X ++ [x]) ++ (pl ++ rows)) H := by
  rw [List.append_assoc (X ++ pl)] at hP
  have h := va_P.swap hP
  rw [← List.append_assoc X] at h
  have h2 := va_P.swap h
  rw [List.append_assoc (X ++ [x])] at h2
  exact h2
theorem vr_layD {X rows : va_W} {x : Nat × va_E} {pl : va_W} {A : Nat → Prop} (hD : va_D A (((X ++ pl) ++ [x]) ++ rows)) : va_D A ((X ++ [x]) ++ (pl ++ rows)) := by
  rw [List.append_assoc (X ++ pl)] at hD
  have h := va_D.swap hD
  rw [← List.append_assoc X] at h
  have h2 := va_D.swap h
  rw [List.append_assoc (X ++ [x])] at h2
  exact h2
theorem vr_outer (c : ClassId) (N h0 : Nat) : ∀ i : Nat, Jvm.Free.Multi.outerC c N h0 i = arrV c N (fun j => va_rf (if j < i then some (h0 + 1 + j) else none))
  | 0 => by
    show ({ cls := c, slots := Array.replicate N .null, vm := .none } : Cell) = _
    rw [arrV_new]
    refine congrArg (arrV c N) (funext fun j => ?_)
    simp [va_rf]
  | i + 1 => by
    show (Jvm.Free.Multi.outerC c N h0 i).setSlot i (.ref (h0 + 1 + i)) = _
    rw [vr_outer c N h0 i, arrV_store]
    refine congrArg (arrV c N) (funext fun j => ?_)
    by_cases e : j = i
    · subst e
      simp [updV, va_rf]
    · by_cases h : j < i
      · simp [updV, e, h, Nat.lt_succ_of_lt h]
      · simp [updV, e, h, show ¬ j < i + 1 by omega]
section VGM
variable {p : Program} {l : Launch} {e : Env} {R : Room} {s : State} {m : MethodId} {args : Array Value} {below : List Frame} {meth : Method} {c : Code} {H : Heap} {locs : List Loc} {cells slots : Nat} {Q : State → Prop}
variable {cc : ByteArray} {pc : Nat} {ls : Array Slot} {rest : List Value} {D : va_G} {cl : List vw_C} {A : Nat → Prop} {a : Nat} {tys : List (ClassId × FieldType)} {ws : va_W} {H0 : Heap}
theorem va_mna {X : va_W} {L : List Nat} {f : Nat → va_E} {cc : ByteArray} (hexec : p.tables.exec = Jvm.exec) (hb : c.code = cc) {own : String} {index : Nat} {ty : FieldType} {cy : ClassId} (hown : s.vm.findClass own = some m.cls) (hclink : (Cond.classLink own index ("[" ++ (FieldType.array ty).toString)).before args s = true) (hover : va_AOA ty s) (harr : (Cond.arrayClass ty).before args s = true) (hcy : s.vm.findClass (FieldType.array ty).toString = some cy)
    (hK : va_K D cl tys s) (hP : va_P D cl (X ++ va_pl L f) H) (hD : va_D A (X ++ va_pl L f)) (hS : va_S A H0 H locs) (hA : ∀ q, H0.size ≤ q → A q) {n k : Int32} {N' K' : Nat} {z : vp_A} (hn : ¬ n < 0) (hk : ¬ k < 0) (hN : n.toNatClampNeg = N') (hM : k.toNatClampNeg = K')
    (hb1 : N' * 4 ≤ 536870912) (hb2 : K' * componentBytes ty ≤ 536870912) (hb3 : K' ≤ 536870912) (hdf : fits ty (defaultValue ty) = true) (hdd : (defaultValue ty).isDefault = true) (hcells : cells + (1 + N') ≤ R.cells) (hslots : slots + (N' + N' * K') ≤ R.slots) (hz : ∀ c : ClassId, Jvm.Free.Multi.innerC c K' (defaultValue ty) = vp_cell c z) (hdg : decode cc pc = .ok (.multianewarray index 2, 4))
    (kk : ∀ (q : Nat) (r : Nat → Nat) (cA : ClassId) (H1 : Heap), (∀ i j : Nat, i < N' → j < N' → r i = r j → i = j) → (∀ i : Nat, i < N' → r i ∉ L) → va_K D cl (tys ++ [(cA, .array ty)]) s →
      va_P D cl ((X ++ [(q, .inl (cA, N', .inr (.inr (.inr (.inr (fun i => if i < N' then some (r i) else none))))))]) ++ va_pl (L ++ (List.range N').map r) (vr_up f ((List.range N').map r) (.inl (cy, z)))) H1 → va_D A ((X ++ [(q, .inl (cA, N', .inr (.inr (.inr (.inr (fun i => if i < N' then some (r i) else none))))))]) ++ va_pl (L ++ (List.range N').map r) (vr_up f ((List.range N').map r) (.inl (cy, z)))) → va_S A H0 H1 locs →
      W p l e R s m args below meth c H1 locs (cells + 1 + N') (slots + N' + N' * K') Q (F0 m (pc + 4) ls (.ref q :: rest))) : W p l e R s m args below meth c H locs cells slots Q (F0 m pc ls (.int k :: .int n :: rest)) := by
  subst hN
  subst hM
  intro T hT Xs
  obtain ⟨vm₁, cA, comp, -, fA, fC, hO, -, X', step⟩ := Xs.multianewarray2F hexec hown hclink (va_AOA.use hover) harr (g := F0 m pc ls (.int k :: .int n :: rest)) rfl (by rw [hb]; exact hdg) rfl hn hk hb1 hb2 hb3 hdf hdd hcells hslots
  have ec : some cy = some comp := hcy.symm.trans fC
  cases ec
  generalize hF : Jvm.Free.Multi.fill (T.setVm vm₁) cA cy n.toNatClampNeg k.toNatClampNeg (defaultValue ty) n.toNatClampNeg = F at X' step
  have hTh : (T.setVm vm₁).heap = H := hT
  obtain ⟨f1, f2, -, -⟩ := Jvm.Free.Multi.fill_facts (T.setVm vm₁) cA cy n.toNatClampNeg k.toNatClampNeg (defaultValue ty) n.toNatClampNeg
  rw [hF, hTh] at f1 f2
  have hold : ∀ x : Nat, x < H.size → F.heap[x]? = H[x]? := fun x hx => by
    have := Jvm.Free.Multi.fill_old (T.setVm vm₁) cA cy n.toNatClampNeg k.toNatClampNeg (defaultValue ty) (a := x) (by rw [hTh]; exact hx) n.toNatClampNeg
    rw [hF, hTh] at this
    exact this
  have hrow : ∀ j : Nat, j < n.toNatClampNeg → F.heap[H.size + 1 + j]? = some (vp_cell cy z) := fun j hj => by
    have := Jvm.Free.Multi.fill_inner (T.setVm vm₁) cA cy n.toNatClampNeg k.toNatClampNeg (defaultValue ty) n.toNatClampNeg j hj
    rw [hF, hTh, hz] at this
    exact this
  have hout : Jvm.Free.Multi.outerC cA n.toNatClampNeg H.size n.toNatClampNeg = vp_cell cA (n.toNatClampNeg, .inr (.inr (.inr (.inr (fun i => if i < n.toNatClampNeg then some (H.size + 1 + i) else none))))) := by
    rw [vp_cell_q]
    exact vr_outer cA n.toNatClampNeg H.size n.toNatClampNeg
  rw [hout] at f2
  have hlt : ∀ a, a ∈ L → a < H.size := fun a ha => by
    obtain ⟨k9, hk9⟩ := va_pl_get (X := X) (f := f) ha
    exact (hP k9 _ hk9).lt
  have hnl : ∀ i : Nat, i < n.toNatClampNeg → H.size + 1 + i ∉ L := fun i _ h => by
    have := hlt _ h
    omega
  have hnm : ∀ a, a ∈ (List.range n.toNatClampNeg).map (fun i => H.size + 1 + i) → a ∉ L := fun a ha h => by
    obtain ⟨i, -, rfl⟩ := List.mem_map.mp ha
    have := hlt _ h
    omega
  have hP0 : va_P D cl (X ++ va_pl L f) F.heap := hP.kept (fun k9 x hx => hold x.1 ((hP k9 x hx).lt))
  have hP1 : va_P D cl ((X ++ va_pl L f) ++ [(H.size, .inl (cA, n.toNatClampNeg, .inr (.inr (.inr (.inr (fun i => if i < n.toNatClampNeg then some (H.size + 1 + i) else none))))))]) F.heap := hP0.app (fun k9 x hx => by
    have h0 : k9 < 1 := (List.getElem?_eq_some_iff.mp hx).1
    rw [show k9 = 0 by omega] at hx
    cases hx
    exact f2)
  have hP2 : va_P D cl (((X ++ va_pl L f) ++ [(H.size, .inl (cA, n.toNatClampNeg, .inr (.inr (.inr (.inr (fun i => if i < n.toNatClampNeg then some (H.size + 1 + i) else none))))))]) ++ ((List.range n.toNatClampNeg).map (fun i => H.size + 1 + i)).map (fun a => (a, .inl (cy, z)))) F.heap := hP1.app (fun k9 x hx => by
    obtain ⟨a, ha, rfl⟩ := List.mem_map.mp (List.mem_of_getElem? hx)
    obtain ⟨i, hi, rfl⟩ := List.mem_map.mp ha
    exact hrow i (List.mem_range.mp hi))
  have hD2 : va_D A (((X ++ va_pl L f) ++ [(H.size, .inl (cA, n.toNatClampNeg, .inr (.inr (.inr (.inr (fun i => if i < n.toNatClampNeg then some (H.size + 1 + i) else none))))))]) ++ ((List.range n.toNatClampNeg).map (fun i => H.size + 1 + i)).map (fun a => (a, .inl (cy, z)))) := by
    have hD1 := hD.push (e := .inl (cA, n.toNatClampNeg, .inr (.inr (.inr (.inr (fun i => if i < n.toNatClampNeg then some (H.size + 1 + i) else none)))))) hP rfl (hA _ hS.1)
    generalize hW1 : (X ++ va_pl L f) ++ [(H.size, .inl (cA, n.toNatClampNeg, .inr (.inr (.inr (.inr (fun i => if i < n.toNatClampNeg then some (H.size + 1 + i) else none))))))] = W1 at hD1 hP1 ⊢
    have hle : ∀ (k9 : Nat) (x : Nat × va_E), W1[k9]? = some x → x.1 ≤ H.size := fun k9 x hx => by
      rw [← hW1] at hx
      by_cases hl : k9 < (X ++ va_pl L f).length
      · rw [List.getElem?_append_left hl] at hx
        exact Nat.le_of_lt ((hP k9 x hx).lt)
      · rw [List.getElem?_append_right (by omega)] at hx
        have h0 : k9 - (X ++ va_pl L f).length < 1 := (List.getElem?_eq_some_iff.mp hx).1
        rw [show k9 - (X ++ va_pl L f).length = 0 by omega] at hx
        cases hx
        exact Nat.le_refl _
    have hr : ∀ (k9 : Nat) (x : Nat × va_E), (((List.range n.toNatClampNeg).map (fun i => H.size + 1 + i)).map (fun a => ((a, .inl (cy, z)) : Nat × va_E)))[k9]? = some x → x.1 = H.size + 1 + k9 := fun k9 x hx => by
      rw [List.getElem?_map, List.getElem?_map] at hx
      by_cases h9 : k9 < n.toNatClampNeg
      · rw [List.getElem?_range h9] at hx
        cases hx
        rfl
      · have hn0 : (List.range n.toNatClampNeg)[k9]? = none := List.getElem?_eq_none (by rw [List.length_range]; omega)
        rw [hn0] at hx
        cases hx
    refine ⟨fun i j x y hi hj hxy => ?_, fun k9 x hx => ?_⟩
    · by_cases h1 : i < W1.length <;> by_cases h2 : j < W1.length
      · rw [List.getElem?_append_left h1] at hi
        rw [List.getElem?_append_left h2] at hj
        exact hD1.1 i j x y hi hj hxy
      · rw [List.getElem?_append_left h1] at hi
        rw [List.getElem?_append_right (by omega)] at hj
        have := hle _ _ hi
        have := hr _ _ hj
        omega
      · rw [List.getElem?_append_right (by omega)] at hi
        rw [List.getElem?_append_left h2] at hj
        have := hle _ _ hj
        have := hr _ _ hi
        omega
      · rw [List.getElem?_append_right (by omega)] at hi hj
        have := hr _ _ hi
        have := hr _ _ hj
        omega
    · by_cases h1 : k9 < W1.length
      · rw [List.getElem?_append_left h1] at hx
        exact hD1.2 k9 x hx
      · rw [List.getElem?_append_right (by omega)] at hx
        have := hr _ _ hx
        exact hA _ (by have := hS.1; omega)
  have hAr : ArrOfT s cA (.array ty) := fun N9 z9 => by
    obtain ⟨-, k9, hk9, cm9, hkk9⟩ := (hO 0 0 0).1
    exact ⟨(fun q hq => by cases hq), k9, hk9, cm9, hkk9⟩
  have hK2 : va_K D cl (tys ++ [(cA, .array ty)]) s := ⟨hK.1, fun k9 x hx => by
    by_cases hl : k9 < tys.length
    · rw [List.getElem?_append_left hl] at hx
      exact hK.2 k9 x hx
    · rw [List.getElem?_append_right (by omega)] at hx
      have h0 : k9 - tys.length < 1 := (List.getElem?_eq_some_iff.mp hx).1
      rw [show k9 - tys.length = 0 by omega] at hx
      cases hx
      exact ⟨hAr, fA⟩⟩
  obtain ⟨t, a1, b1⟩ := kk H.size (fun i => H.size + 1 + i) cA F.heap (fun i j _ _ h => by have h9 : H.size + 1 + i = H.size + 1 + j := h; omega) hnl hK2 (by rw [← vr_rows hnm]; exact vr_lay hP2) (by rw [← vr_rows hnm]; exact vr_layD hD2) ⟨by rw [f1]; have := hS.1; omega, fun x h1 h2 => (hold x (Nat.lt_of_lt_of_le h1 hS.1)).trans (hS.2.1 x h1 h2), hS.2.2⟩ F rfl X'
  refine ⟨t, step t ?_, b1⟩
  have e : T.heap.size = H.size := by rw [hT]
  rw [e]
  exact a1
end VGM
/-! ===== END ===== -/

/-! ===== BEGIN exceptions that leave a method, and their catching by the caller (launches without stack traces) ===== -/
section VXA
/-! The laws vx_back, vx_callV, vx_callS, vx_callSW, vx_throw0, vx_throwS follow proofs of the library, with one case more: JvmDerived/Free/Laws.lean (Back.of_free), Shelf42/LK1.lean (callV, callS), Shelf/KitTraced.lean (throwNew0V, throwNewS). -/
/-- where a method has thrown q: the class by its name, the cell, what was written, the world -/
def vx_T (XC : String → State → State → Prop) (st : State) (q : Addr) (t : State) (mc ms : Nat) (free : Addr → Prop) : Prop :=
  ∃ (E : String) (ce : Cell) (L : List Loc), XC E st t ∧ t.heap[q]? = some ce ∧ ce.vm = .none ∧ st.vm.findClass E = some ce.cls ∧ st.WarmedH t.vm ∧ st.sameButNew ({ t with vm := st.vm } : State) L mc ms ∧ ∀ z ∈ L, free z.base
def vx_Q (Qc : Array Value → State → Outcome → State → Prop) (XC : String → State → State → Prop) (mc ms : Nat) (free : Addr → Prop) : Array Value → State → Outcome → State → Prop := fun a st o t =>
  (Qc a st o t ∧ ∃ L, FrameEnd st o t L mc ms ∧ ∀ q ∈ L, free q.base) ∨ ∃ q, o = .threw q ∧ vx_T XC st q t mc ms free
/-- a callee that returns or throws -/
def vx_Met (l : Launch) (y : MethodName) (ws : List Cond) (rm : Room) (Pc : Array Value → State → Prop) (Qc : Array Value → State → Outcome → State → Prop) (XC : String → State → State → Prop) (mc ms : Nat) (free : Addr → Prop) : Prop :=
  MetFree l y (headSpec ws rm) Pc (fun _ _ _ _ _ => True) (vx_Q Qc XC mc ms free)
def vx_Post (XC : String → State → State → Prop) (mc ms : Nat) (free : Addr → Prop) : Pt → Array Value → Addr → Pt → Prop := fun A a q B =>
  ∃ (g : JFrame) (mk : MethodId) (t : State) (L : List Loc) (E : String) (ce : Cell), B.U.heap = t.heap ∧ B.U.vm = t.vm ∧ XC E (A.U.calling g mk a) t ∧ t.heap[q]? = some ce ∧ ce.vm = .none ∧ A.U.vm.findClass E = some ce.cls ∧ B.locs = A.locs ++ L ∧ (∀ z ∈ L, free z.base) ∧ B.cells = A.cells + mc ∧ B.slots = A.slots + ms
def vx_Back (l : Launch) (R : Room) (p : Program) (e : Env) (below : List Frame) (s : State) (sargs : Array Value) (y : MethodName) (len W9 : Nat)
    (Pre : Pt → Array Value → Prop) (Post : Pt → Array Value → Option Value → Pt → Prop) (PostX : Pt → Array Value → Addr → Pt → Prop) : Prop :=
  ∀ (m : MethodId) (meth : Method) (c : Code) (A : Pt) (g : JFrame) (ig : Instr) (mk : MethodId) (a : Array Value),
    Stand p l e R s m sargs below meth c A.U A.locs A.cells A.slots → g.method = m → g.locals.size = c.maxLocals → decode c.code g.pc = .ok (ig, len) →
    2 * g.monitorRoom + (g.stack.map fun v => v.category).sum ≤ W9 → A.U.methodNamed? y = some mk → Pre A a →
    (∃ (v : Option Value) (B : Pt), Stand p l e R s m sargs below meth c B.U B.locs B.cells B.slots ∧ Post A a v B ∧
      Steps p.tables e below (doInvoke e (A.U.setTop g) [] mk a).1 (B.U.setTop { g with pc := g.pc + len, stack := v.toList ++ g.stack })) ∨
    (∃ (q : Addr) (B : Pt), Stand p l e R s m sargs below meth c B.U B.locs B.cells B.slots ∧ PostX A a q B ∧
      Steps p.tables e below (doInvoke e (A.U.setTop g) [] mk a).1 ((B.U.setTop g).pushFrame (.throwing q)))
section Payer
variable {l : Launch} {R : Room} {p : Program} {e : Env} {below : List Frame} {s : State} {sargs : Array Value} {y : MethodName} {len W9 : Nat}
theorem vx_back {ws : List Cond} {rm : Room} {Pc : Array Value → State → Prop} {Qc : Array Value → State → Outcome → State → Prop} {XC : String → State → State → Prop} {mc ms : Nat} {free : Addr → Prop} {bytes : ByteArray} {maxL : Nat} {ret : Option FieldType}
    (hM : vx_Met l y ws rm Pc Qc XC mc ms free) (hblind : FrameBlind Pc) (hrc : rm.cells = mc) (hrs : rm.slots = ms)
    (hframes : rm.frames + 1 ≤ R.frames) (hlocals : W9 + (maxL + 11) + rm.locals ≤ R.locals)
    (hws : ∀ w ∈ ws, ∀ a' U, s.WarmedH U.vm → w.before a' U = true) (hcode : Cond.code y bytes maxL ret ∈ ws) (hinit : ∀ a' U, s.WarmedH U.vm → (Cond.initialized y.cls).before a' U = true) :
    vx_Back l R p e below s sargs y len W9 (PreOf R mc ms Pc) (PostOf Qc mc ms free) (vx_Post XC mc ms free) := by
  intro m meth c A g ig mk a X hg hsize hdg hW hn hp
  have h1 : (headSpec ws rm).pre.before a A.U = true := atoms_intro fun w hw => hws w hw _ _ X.warmed
  have h2 : (Cond.code y bytes maxL ret).before a A.U = true := hws _ hcode _ _ X.warmed
  have h3 : (Cond.initialized y.cls).before a A.U = true := hinit _ _ X.warmed
  have h4 : A.cells + (headSpec ws rm).room.cells ≤ R.cells := by rw [show (headSpec ws rm).room.cells = mc from hrc]; exact hp.1
  have h5 : A.slots + (headSpec ws rm).room.slots ≤ R.slots := by rw [show (headSpec ws rm).room.slots = ms from hrs]; exact hp.2.1
  have hPc : Pc a (A.U.calling g mk a) := hblind _ _ _ _ hp.2.2
  obtain ⟨U, Ls, c0, s0⟩ := A
  dsimp only [Pt.U, Pt.locs, Pt.cells, Pt.slots] at h1 h2 h3 h4 h5 X hn hPc ⊢
  obtain ⟨methY, cY, hmY, hcY, -, hlY, -, -, -, -⟩ := Cond.code_spec hn h2
  obtain ⟨kY, hkY, -⟩ := className_of_methodNamed hn
  have hinitY : kY.init = .initialized := Cond.initialized_spec (findClass_of_methodNamed hn) hkY h3
  have h : At U g.method c below := by rw [hg]; exact X.here
  have hlocals9 : W9 + (maxL + 11) + (headSpec ws rm).room.locals ≤ R.locals := hlocals
  have happ : (headSpec ws rm).appliesLoose y e.platform (U.calling g mk a) = true :=
    Spec.appliesLoose_calling (g := g) h hdg hn hkY hinitY
      (X.room_calling (g := g) (R' := (headSpec ws rm).room) hsize hmY hcY hframes (by rw [hlY]; omega) h4 h5) h1
  obtain ⟨mid, hmid⟩ := h.above
  have hfr : (U.setTop g).frames = (.java g :: mid) ++ below := by rw [State.frames_setTop' g h.top, hmid]; rfl
  obtain ⟨o, s₂, hsteps, -, hend, hq⟩ := Steps.callFree hM p X.admits X.cas X.clock (acts := []) hfr happ hPc trivial
  have hq' : vx_Q Qc XC mc ms free a (U.calling g mk a) o s₂ := hq
  rw [State.frames_setTop' g h.top] at hend
  obtain ⟨g₀, hg0⟩ := Option.isSome_iff_exists.mp h.top
  obtain ⟨r, hr⟩ := State.topJava?_eq_some.mp hg0
  have hr' : (({ U with heap := s₂.heap, slotsUsed := s₂.slotsUsed } : State).setVm s₂.vm).frames = .java g₀ :: r := hr
  rcases hq' with ⟨hqc, L, hfe, hL⟩ | ⟨q, rfl, E, ce, L, hx, hce, hcv, hcl, hW₂, hsm, hL⟩
  · obtain ⟨⟨v, rfl⟩, hW₂, e2, q2, q3, q4, q5, q6⟩ := id hfe
    have e3 : s₂ = ({ (U.calling g mk a).setFrames s₂.frames with heap := s₂.heap, slotsUsed := s₂.slotsUsed } : State).setVm s₂.vm := by
      have : s₂ = ({ s₂ with vm := (U.calling g mk a).vm } : State).setVm s₂.vm := rfl
      rw [e2] at this
      exact this
    obtain ⟨c₂, i₂, len₂, hc₂, hd₂, hf₂⟩ := hend
    have hW' : U.WarmedH s₂.vm := hW₂
    have hcc : c₂ = c := by
      have h1 : s₂.code? g.method = U.code? g.method := by
        rw [State.code?_eq, State.code?_eq, hW'.alike.method?]
      exact Option.some.inj (hc₂.symm.trans (h1.trans h.code))
    subst hcc
    have hlen : len₂ = len := by rw [hdg] at hd₂; cases hd₂; rfl
    subst hlen
    have hs₂ : s₂ = (({ U with heap := s₂.heap, slotsUsed := s₂.slotsUsed } : State).setVm s₂.vm).setTop { g with pc := g.pc + len₂, stack := v.toList ++ g.stack } := by
      refine e3.trans ?_
      rw [hf₂, State.calling_eq h.top, State.setFrames_setFrames, State.setTop_of_frames _ hr', hr]
      rfl
    have hsame : U.sameButNew ({ U with heap := s₂.heap, slotsUsed := s₂.slotsUsed } : State) L mc ms := by
      refine ⟨?_, q2, q3, q4, q5, q6⟩
      obtain ⟨t, ht, -⟩ := State.frames_cons hr
      show ({ U with heap := s₂.heap, slotsUsed := s₂.slotsUsed } : State) = { U.setFrames U.frames with heap := s₂.heap, slotsUsed := s₂.slotsUsed }
      rw [State.setFrames_self ht]
    subst hg
    refine Or.inl ⟨v, ⟨(({ U with heap := s₂.heap, slotsUsed := s₂.slotsUsed } : State).setVm s₂.vm), Ls ++ L, c0 + mc, s0 + ms⟩,
      ⟨X.admits, X.cas, X.clock, X.frames, X.room, X.hears, X.method, X.code, (X.here.setHeapUsed s₂.heap s₂.slotsUsed).setVm hW'.alike, X.tail, State.WarmedH.trans X.warmed hW', X.limits, X.bytes, X.same.trans (hsame.setVm s.vm)⟩,
      ⟨g, mk, s₂, L, rfl, rfl, hqc, rfl, hL, rfl, rfl⟩, ?_⟩
    show Steps p.tables e below _ ((({ U with heap := s₂.heap, slotsUsed := s₂.slotsUsed } : State).setVm s₂.vm).setTop { g with pc := g.pc + len₂, stack := v.toList ++ g.stack })
    rw [← hs₂]
    exact hsteps
  · obtain ⟨e2, q2, q3, q4, q5, q6⟩ := id hsm
    have e3 : s₂ = ({ (U.calling g mk a).setFrames s₂.frames with heap := s₂.heap, slotsUsed := s₂.slotsUsed } : State).setVm s₂.vm := by
      have : s₂ = ({ s₂ with vm := (U.calling g mk a).vm } : State).setVm s₂.vm := rfl
      rw [e2] at this
      exact this
    have hf₂ : s₂.frames = .throwing q :: .java g :: U.frames.tail := hend
    have hW' : U.WarmedH s₂.vm := hW₂
    have hs₂ : s₂ = ((({ U with heap := s₂.heap, slotsUsed := s₂.slotsUsed } : State).setVm s₂.vm).setTop g).pushFrame (.throwing q) := by
      refine e3.trans ?_
      rw [hf₂, State.calling_eq h.top, State.setFrames_setFrames, State.pushFrame, State.frames_setTop _ hr', State.setTop_of_frames _ hr', State.setFrames_setFrames, hr]
      rfl
    have hsame : U.sameButNew ({ U with heap := s₂.heap, slotsUsed := s₂.slotsUsed } : State) L mc ms := by
      refine ⟨?_, q2, q3, q4, q5, q6⟩
      obtain ⟨t, ht, -⟩ := State.frames_cons hr
      show ({ U with heap := s₂.heap, slotsUsed := s₂.slotsUsed } : State) = { U.setFrames U.frames with heap := s₂.heap, slotsUsed := s₂.slotsUsed }
      rw [State.setFrames_self ht]
    subst hg
    refine Or.inr ⟨q, ⟨(({ U with heap := s₂.heap, slotsUsed := s₂.slotsUsed } : State).setVm s₂.vm), Ls ++ L, c0 + mc, s0 + ms⟩,
      ⟨X.admits, X.cas, X.clock, X.frames, X.room, X.hears, X.method, X.code, (X.here.setHeapUsed s₂.heap s₂.slotsUsed).setVm hW'.alike, X.tail, State.WarmedH.trans X.warmed hW', X.limits, X.bytes, X.same.trans (hsame.setVm s.vm)⟩,
      ⟨g, mk, s₂, L, E, ce, rfl, rfl, hx, hce, hcv, hcl, rfl, hL, rfl, rfl⟩, ?_⟩
    show Steps p.tables e below _ (((({ U with heap := s₂.heap, slotsUsed := s₂.slotsUsed } : State).setVm s₂.vm).setTop g).pushFrame (.throwing q))
    rw [← hs₂]
    exact hsteps
end Payer
section Calls
variable {p : Program} {l : Launch} {e : Env} {R : Room} {s : State} {m : MethodId} {args : Array Value} {below : List Frame} {meth : Method} {c : Code} {T : State} {locs : List Loc} {cells slots : Nat}
theorem vx_callV (X : Stand p l e R s m args below meth c T locs cells slots) (hexec : p.tables.exec = Jvm.exec) {own C : String} {index : Nat} {y : MethodName} {bytes : ByteArray} {maxL : Nat} {ret : Option FieldType}
    (hown : s.vm.findClass own = some m.cls) (hlink : (Cond.methodLink own index y).before args s = true) (hinst : (Cond.instanceMethod y).before args s = true) (hsel : (Cond.selects C y y).before args s = true)
    (hcode : (Cond.code y bytes maxL ret).before args s = true) (hy : y.cls ≠ "java/lang/invoke/MethodHandle" ∧ y.cls ≠ "java/lang/invoke/VarHandle")
    {W9 : Nat} {Pre : Pt → Array Value → Prop} {Post : Pt → Array Value → Option Value → Pt → Prop} {PostX : Pt → Array Value → Addr → Pt → Prop} (hK : vx_Back l R p e below s args y 3 W9 Pre Post PostX)
    {b : Addr} {cellB : Cell} (hcell : T.heap[b]? = some cellB) (hobj : cellB.vm.isStatics = false) (hcls : s.vm.findClass C = some cellB.cls)
    {g : JFrame} (hg : g.method = m) (hsize : g.locals.size = c.maxLocals) {argsL rest : List Value} (hlen : ∀ sig, parseMethodDescriptor y.desc = some sig → argsL.length = sig.parameters.length)
    (hstack : g.stack = argsL.reverse ++ .ref b :: rest) (hW : 2 * g.monitorRoom + (rest.map fun v => v.category).sum ≤ W9) (hdg : decode c.code g.pc = .ok (.invokevirtual index, 3))
    (hpre : ∀ vm₁, s.WarmedH vm₁ → Pre ⟨T.setVm vm₁, locs, cells, slots⟩ (Value.ref b :: argsL).toArray) :
    (∃ (v : Option Value) (vm₁ : Vm) (B : Pt), s.WarmedH vm₁ ∧ Stand p l e R s m args below meth c B.U B.locs B.cells B.slots ∧ Post ⟨T.setVm vm₁, locs, cells, slots⟩ (Value.ref b :: argsL).toArray v B ∧
      ∀ target, Steps p.tables e below (B.U.setTop { g with pc := g.pc + 3, stack := v.toList ++ rest }) target → Steps p.tables e below (T.setTop g) target) ∨
    (∃ (q : Addr) (vm₁ : Vm) (B : Pt), s.WarmedH vm₁ ∧ Stand p l e R s m args below meth c B.U B.locs B.cells B.slots ∧ PostX ⟨T.setVm vm₁, locs, cells, slots⟩ (Value.ref b :: argsL).toArray q B ∧
      Steps p.tables e below (T.setTop g) ((B.U.setTop { g with stack := rest }).pushFrame (.throwing q))) := by
  obtain ⟨mk, methM, hnamed, hmethM, hstM, habM⟩ := Cond.instanceMethod_spec hinst
  obtain ⟨methM', cM, hmethM', -, -, -, -, -, -, hsigM⟩ := Cond.code_spec hnamed hcode
  cases hmethM.symm.trans hmethM'
  obtain ⟨c2, r2, m2, q1, q2, q3, q4, kP, hkP, hkPi⟩ := Cond.selects_spec hsel
  cases hcls.symm.trans q1
  cases (State.methodFound?_of_named hnamed hy).symm.trans q2
  cases hnamed.symm.trans q3
  have hselP : selectMethod e.platform s.vm cellB.cls mk = .method mk := by rw [Launch.admits_selectMethod X.admits]; exact q4
  obtain ⟨vm₁, X₁, hstep₁⟩ := X.invokevirtual hexec hown hlink hnamed hmethM hstM hkP hkPi hy (a := b) (cell := cellB) hcell
    (fun z h => by rw [h] at hobj; cases hobj) hselP hmethM habM hkP hkPi (g := g) hg (argsL := argsL) (rest := rest) (hlen _ hsigM) hstack hdg
  rcases hK m meth c ⟨T.setVm vm₁, locs, cells, slots⟩ { g with stack := rest } (.invokevirtual index) mk (Value.ref b :: argsL).toArray X₁ hg hsize hdg hW (X₁.named hnamed) (hpre vm₁ X₁.warmed) with ⟨v, B, X', hpost, hsteps⟩ | ⟨q, B, X', hpost, hsteps⟩
  · exact Or.inl ⟨v, vm₁, B, X₁.warmed, X', hpost, fun target h => hstep₁ _ fun acts => by rw [doInvoke_state]; exact hsteps.trans h⟩
  · exact Or.inr ⟨q, vm₁, B, X₁.warmed, X', hpost, hstep₁ _ fun acts => by rw [doInvoke_state]; exact hsteps⟩
theorem vx_callS (X : Stand p l e R s m args below meth c T locs cells slots) (hexec : p.tables.exec = Jvm.exec) {own : String} {index : Nat} {y : MethodName} {bytes : ByteArray} {maxL : Nat} {ret : Option FieldType}
    (hown : s.vm.findClass own = some m.cls) (hlink : (Cond.methodLink own index y).before args s = true) (hstat : (Cond.static y).before args s = true) (hinit : (Cond.initialized y.cls).before args s = true)
    (hcode : (Cond.code y bytes maxL ret).before args s = true) (hy : y.cls ≠ "java/lang/invoke/MethodHandle" ∧ y.cls ≠ "java/lang/invoke/VarHandle")
    {W9 : Nat} {Pre : Pt → Array Value → Prop} {Post : Pt → Array Value → Option Value → Pt → Prop} {PostX : Pt → Array Value → Addr → Pt → Prop} (hK : vx_Back l R p e below s args y 3 W9 Pre Post PostX)
    {g : JFrame} (hg : g.method = m) (hsize : g.locals.size = c.maxLocals) {argsL rest : List Value} (hlen : ∀ sig, parseMethodDescriptor y.desc = some sig → argsL.length = sig.parameters.length)
    (hstack : g.stack = argsL.reverse ++ rest) (hW : 2 * g.monitorRoom + (rest.map fun v => v.category).sum ≤ W9) (hdg : decode c.code g.pc = .ok (.invokestatic index, 3))
    (hpre : ∀ vm₁, s.WarmedH vm₁ → Pre ⟨T.setVm vm₁, locs, cells, slots⟩ argsL.toArray) :
    (∃ (v : Option Value) (vm₁ : Vm) (B : Pt), s.WarmedH vm₁ ∧ Stand p l e R s m args below meth c B.U B.locs B.cells B.slots ∧ Post ⟨T.setVm vm₁, locs, cells, slots⟩ argsL.toArray v B ∧
      ∀ target, Steps p.tables e below (B.U.setTop { g with pc := g.pc + 3, stack := v.toList ++ rest }) target → Steps p.tables e below (T.setTop g) target) ∨
    (∃ (q : Addr) (vm₁ : Vm) (B : Pt), s.WarmedH vm₁ ∧ Stand p l e R s m args below meth c B.U B.locs B.cells B.slots ∧ PostX ⟨T.setVm vm₁, locs, cells, slots⟩ argsL.toArray q B ∧
      Steps p.tables e below (T.setTop g) ((B.U.setTop { g with stack := rest }).pushFrame (.throwing q))) := by
  obtain ⟨mk, hnamed⟩ := Cond.code_named hcode
  obtain ⟨methM, cM, hmethM, -, -, -, -, -, -, hsigM⟩ := Cond.code_spec hnamed hcode
  have hstatic : methM.isStatic = true := Cond.static_spec hnamed hmethM hstat
  obtain ⟨kP, hkP, -⟩ := className_of_methodNamed hnamed
  have hinitP : kP.init = .initialized := Cond.initialized_spec (findClass_of_methodNamed hnamed) hkP hinit
  obtain ⟨vm₁, X₁, hstep₁⟩ := X.invokestatic hexec hown hlink hnamed hmethM hstatic hkP hinitP hy (g := g) hg (argsL := argsL) (rest := rest) (hlen _ hsigM) hstack hdg
  rcases hK m meth c ⟨T.setVm vm₁, locs, cells, slots⟩ { g with stack := rest } (.invokestatic index) mk argsL.toArray X₁ hg hsize hdg hW (X₁.named hnamed) (hpre vm₁ X₁.warmed) with ⟨v, B, X', hpost, hsteps⟩ | ⟨q, B, X', hpost, hsteps⟩
  · exact Or.inl ⟨v, vm₁, B, X₁.warmed, X', hpost, fun target h => hstep₁ _ fun acts => by rw [doInvoke_state]; exact hsteps.trans h⟩
  · exact Or.inr ⟨q, vm₁, B, X₁.warmed, X', hpost, hstep₁ _ fun acts => by rw [doInvoke_state]; exact hsteps⟩
end Calls
theorem vx_cls {s : State} {T : State} {vm₁ : Vm} {E : String} {k : ClassId} (hW : s.WarmedH vm₁) (h : (T.setVm vm₁).vm.findClass E = some k) : s.vm.findClass E = some k := by
  have h1 : vm₁.findClass E = some k := h
  rw [hW.alike.findClass] at h1
  exact h1
/-- the method's frame g, with q thrown over it -/
def vx_W (p : Program) (l : Launch) (e : Env) (R : Room) (s : State) (m : MethodId) (args : Array Value) (below : List Frame) (meth : Method) (c : Code) (H : Heap) (locs : List Loc) (cells slots : Nat) (Q : State → Prop) (g : JFrame) (q : Addr) : Prop :=
  ∀ T : State, T.heap = H → Stand p l e R s m args below meth c T locs cells slots → ∃ t, Steps p.tables e below ((T.setTop g).pushFrame (.throwing q)) t ∧ Q t
def vx_Run (p : Program) (l : Launch) (e : Env) (R : Room) (s : State) (m : MethodId) (args : Array Value) (below : List Frame) (meth : Method) (c : Code) (H : Heap) (locs : List Loc) (cells slots mc ms : Nat) (g : JFrame) (rest : List Value) (Qa : State → Outcome → State → Prop) (XC : String → State → State → Prop) (free : Addr → Prop) : Prop :=
  ∀ T : State, T.heap = H → Stand p l e R s m args below meth c T locs cells slots →
    (∃ (v : Option Value) (st₀ t T' : State) (L : List Loc), st₀.heap = H ∧ Stand p l e R s m args below meth c T' (locs ++ L) (cells + mc) (slots + ms) ∧ (∀ q ∈ L, free q.base) ∧ T'.heap = t.heap ∧ T'.vm = t.vm ∧ Qa st₀ (.returned v) t ∧
      Goes p e below T g T' { g with pc := g.pc + 3, stack := v.toList ++ rest }) ∨
    (∃ (q : Addr) (st₀ t T' : State) (L : List Loc) (E : String) (ce : Cell), st₀.heap = H ∧ Stand p l e R s m args below meth c T' (locs ++ L) (cells + mc) (slots + ms) ∧ (∀ z ∈ L, free z.base) ∧ T'.heap = t.heap ∧ T'.vm = t.vm ∧ XC E st₀ t ∧ t.heap[q]? = some ce ∧ ce.vm = .none ∧ s.vm.findClass E = some ce.cls ∧
      Steps p.tables e below (T.setTop g) ((T'.setTop { g with stack := rest }).pushFrame (.throwing q)))
def vx_X {S : Type} (px : S → Prop) (B : String → S → State → Prop) (A : Nat → Prop) : String → State → State → Prop := fun E st t => ∃ u : S, px u ∧ B E u t ∧ va_F A st t
section Runs
variable {p : Program} {l : Launch} {e : Env} {R : Room} {s : State} {m : MethodId} {args : Array Value} {below : List Frame} {meth : Method} {c : Code} {H : Heap} {locs : List Loc} {cells slots : Nat}
variable {y : MethodName} {bytes cc : ByteArray} {maxL nL mc ms n index : Nat} {ret : Option FieldType} {ws : List Cond} {rm : Room} {Pc : Array Value → State → Prop} {Qc : Array Value → State → Outcome → State → Prop} {XC : String → State → State → Prop} {free : Addr → Prop} {Ts : List Cond} {own C : String} {b : Addr} {As rest : List Value} {g : JFrame}
theorem vx_callBack (cb : CallB R s args own index y bytes maxL ret ws rm mc ms n) (hM : vx_Met l y ws rm Pc Qc XC mc ms free) (hbl : FrameBlind Pc) : vx_Back l R p e below s args y 3 8 (PreOf R mc ms Pc) (PostOf Qc mc ms free) (vx_Post XC mc ms free) := by
  obtain ⟨hrc, hrs, hfr, hlo, hws, hcw, -, hini, -⟩ := cb
  exact vx_back (bytes := bytes) (maxL := maxL) (ret := ret) hM hbl hrc hrs hfr hlo hws hcw (fun a' U hW => word_at hW (Or.inl (by first | rfl | simp [Cond.onTables, Cond.keeps, Cond.steady])) hini)
theorem vx_runV (S : CallFix p m c cc nL s args Ts own) (hM : vx_Met l y ws rm Pc Qc XC mc ms free) (cw : CallW R s args own C index y bytes maxL ret ws rm mc ms n) (hp : PreV s H C b Pc As)
    (hg : g.method = m) (hn : As.length = n) (hsize : g.locals.size = nL) (hstack : g.stack = As.reverse ++ .ref b :: rest) (hW : 2 * g.monitorRoom + (rest.map fun v => v.category).sum ≤ 8) (hdg : decode cc g.pc = .ok (.invokevirtual index, 3)) (hf : cells + mc ≤ R.cells ∧ slots + ms ≤ R.slots) :
    vx_Run p l e R s m args below meth c H locs cells slots mc ms g rest (Qc (Value.ref b :: As).toArray) XC free := by
  have hK : vx_Back l R p e below s args y 3 8 (PreOf R mc ms Pc) (PostOf Qc mc ms free) (vx_Post XC mc ms free) := vx_callBack cw.1 hM hp.1
  obtain ⟨⟨-, -, -, -, -, -, hcode, -, hy, hlen, hl⟩, hin, hse⟩ := cw
  obtain ⟨hx, hb, hml, ho, -⟩ := S
  obtain ⟨-, ⟨cellB, hcB, hoB, hclB⟩, hPc⟩ := hp
  intro T hT X
  rcases vx_callV X hx (C := C) (bytes := bytes) (maxL := maxL) (ret := ret) ho hl hin hse hcode hy hK (by rw [hT]; exact hcB) hoB hclB hg (hsize.trans hml.symm) (argsL := As) (rest := rest) (fun sig h => hn.trans (hlen sig h)) hstack hW (by rw [hb]; exact hdg)
    (fun vm₁ hW₁ => ⟨hf.1, hf.2, hPc (T.setVm vm₁) hT hW₁⟩) with ⟨v, vm₁, ⟨U', l2, c2, s2⟩, hW₁, X', ⟨g', mk, t, L, e1, e2, hq, h1, hL, h2, h3⟩, st⟩ | ⟨q, vm₁, ⟨U', l2, c2, s2⟩, hW₁, X', ⟨g', mk, t, L, E, ce, e1, e2, hq, hce, hcv, hcl, h1, hL, h2, h3⟩, st⟩
  · dsimp only [Pt.U, Pt.locs, Pt.cells, Pt.slots] at X' e1 e2 h1 h2 h3 st
    subst h1; subst h2; subst h3
    exact Or.inl ⟨v, (T.setVm vm₁).calling g' mk (Value.ref b :: As).toArray, t, U', L, hT, X', hL, e1, e2, hq, st⟩
  · dsimp only [Pt.U, Pt.locs, Pt.cells, Pt.slots] at X' e1 e2 h1 h2 h3 st hcl
    subst h1; subst h2; subst h3
    exact Or.inr ⟨q, (T.setVm vm₁).calling g' mk (Value.ref b :: As).toArray, t, U', L, E, ce, hT, X', hL, e1, e2, hq, hce, hcv, vx_cls hW₁ hcl, st⟩
theorem vx_runS (S : CallFix p m c cc nL s args Ts own) (hM : vx_Met l y ws rm Pc Qc XC mc ms free) (cw : CallB R s args own index y bytes maxL ret ws rm mc ms n ∧ (Cond.static y).before args s = true) (hp : PreS s H Pc As)
    (hg : g.method = m) (hn : As.length = n) (hsize : g.locals.size = nL) (hstack : g.stack = As.reverse ++ rest) (hW : 2 * g.monitorRoom + (rest.map fun v => v.category).sum ≤ 8) (hdg : decode cc g.pc = .ok (.invokestatic index, 3)) (hf : cells + mc ≤ R.cells ∧ slots + ms ≤ R.slots) :
    vx_Run p l e R s m args below meth c H locs cells slots mc ms g rest (Qc As.toArray) XC free := by
  have hK : vx_Back l R p e below s args y 3 8 (PreOf R mc ms Pc) (PostOf Qc mc ms free) (vx_Post XC mc ms free) := vx_callBack cw.1 hM hp.1
  obtain ⟨⟨-, -, -, -, -, -, hcode, hini, hy, hlen, hl⟩, hstt⟩ := cw
  obtain ⟨hx, hb, hml, ho, -⟩ := S
  intro T hT X
  rcases vx_callS X hx (bytes := bytes) (maxL := maxL) (ret := ret) ho hl hstt hini hcode hy hK hg (hsize.trans hml.symm) (argsL := As) (rest := rest) (fun sig h => hn.trans (hlen sig h)) hstack hW (by rw [hb]; exact hdg)
    (fun vm₁ hW₁ => ⟨hf.1, hf.2, hp.2 (T.setVm vm₁) hT hW₁⟩) with ⟨v, vm₁, ⟨U', l2, c2, s2⟩, hW₁, X', ⟨g', mk, t, L, e1, e2, hq, h1, hL, h2, h3⟩, st⟩ | ⟨q, vm₁, ⟨U', l2, c2, s2⟩, hW₁, X', ⟨g', mk, t, L, E, ce, e1, e2, hq, hce, hcv, hcl, h1, hL, h2, h3⟩, st⟩
  · dsimp only [Pt.U, Pt.locs, Pt.cells, Pt.slots] at X' e1 e2 h1 h2 h3 st
    subst h1; subst h2; subst h3
    exact Or.inl ⟨v, (T.setVm vm₁).calling g' mk As.toArray, t, U', L, hT, X', hL, e1, e2, hq, st⟩
  · dsimp only [Pt.U, Pt.locs, Pt.cells, Pt.slots] at X' e1 e2 h1 h2 h3 st hcl
    subst h1; subst h2; subst h3
    exact Or.inr ⟨q, (T.setVm vm₁).calling g' mk As.toArray, t, U', L, E, ce, hT, X', hL, e1, e2, hq, hce, hcv, vx_cls hW₁ hcl, st⟩
end Runs
section Rows
variable {p : Program} {l : Launch} {e : Env} {R : Room} {s : State} {m : MethodId} {args : Array Value} {below : List Frame} {meth : Method} {c : Code} {H : Heap} {locs : List Loc} {cells slots : Nat} {Q : State → Prop}
variable {mc ms : Nat} {free : Addr → Prop} {A0 A1 : Nat → Prop} {H0 : Heap} {a : Array Value} {pc : Nat} {ls : Array Slot} {st0 rest : List Value}
theorem vx_keep {st₀ t T' : State} {L : List Loc} (h0 : st₀.heap = H) (e1 : T'.heap = t.heap) (hS : va_S A0 H0 H locs) (hA : ∀ q, q < H.size → A1 q → A0 q) (hf : ∀ q, free q → A0 q) (hL : ∀ q ∈ L, free q.base) (hF : va_F A1 st₀ t) :
    H.size ≤ T'.heap.size ∧ (∀ q : Nat, q < H.size → ¬ A1 q → T'.heap[q]? = H[q]?) ∧ va_S A0 H0 T'.heap (locs ++ L) := by
  obtain ⟨hz, hk⟩ := hF
  rw [h0] at hz hk
  exact ⟨by rw [e1]; exact hz, fun q h1 h2 => by rw [e1]; exact hk q h1 h2,
    ⟨Nat.le_trans hS.1 (by rw [e1]; exact hz), fun q h1 h2 => by rw [e1, hk q (Nat.lt_of_lt_of_le h1 hS.1) (fun z => h2 (hA q (Nat.lt_of_lt_of_le h1 hS.1) z))]; exact hS.2.1 q h1 h2, fun q hq => by
      rcases List.mem_append.mp hq with h | h
      · exact hS.2.2 q h
      · exact hf _ (hL q h)⟩⟩
theorem vx_calli {S SX : Type} {post : Int32 → S → Prop} {px : SX → Prop} {B : S → State → Prop} {BX : String → SX → State → Prop} {AX : Nat → Prop} (hr : vx_Run p l e R s m args below meth c H locs cells slots mc ms (F0 m pc ls st0) rest (va_Qi post B A1 a) (vx_X px BX AX) free) (hS : va_S A0 H0 H locs) (hA : ∀ q, q < H.size → A1 q → A0 q) (hf : ∀ q, free q → A0 q) (hAX : ∀ q, q < H.size → AX q → A0 q)
    (kx : ∀ (E : String) (ce : Cell) (q9 : Addr) (u : SX) (t : State) (H1 : Heap) (locs1 : List Loc), t.heap = H1 → s.vm.Alike t.vm → px u → BX E u t → H.size ≤ H1.size → (∀ q : Nat, q < H.size → ¬ AX q → H1[q]? = H[q]?) → va_S A0 H0 H1 locs1 → H1[q9]? = some ce → ce.vm = .none → s.vm.findClass E = some ce.cls → vx_W p l e R s m args below meth c H1 locs1 (cells + mc) (slots + ms) Q (F0 m pc ls rest) q9)
    (kk : ∀ (r : Int32) (u : S) (t : State) (H1 : Heap) (locs1 : List Loc), t.heap = H1 → s.vm.Alike t.vm → post r u → B u t → H.size ≤ H1.size → (∀ q : Nat, q < H.size → ¬ A1 q → H1[q]? = H[q]?) → va_S A0 H0 H1 locs1 → W p l e R s m args below meth c H1 locs1 (cells + mc) (slots + ms) Q (F0 m (pc + 3) ls (.int r :: rest))) : W p l e R s m args below meth c H locs cells slots Q (F0 m pc ls st0) := by
  intro T hT X
  rcases hr T hT X with ⟨v, st₀, t, T', L, h0, X', hL, e1, e2, ⟨⟨r, u, hv, hp, hb⟩, hF⟩, st⟩ | ⟨q, st₀, t, T', L, E, ce, h0, X', hL, e1, e2, ⟨u, hp, hb, hF⟩, hce, hcv, hcl, st⟩
  · cases hv
    obtain ⟨k1, k2, k3⟩ := vx_keep h0 e1 hS hA hf hL hF
    obtain ⟨t2, a1, b1⟩ := kk r u t T'.heap (locs ++ L) e1.symm (by rw [← e2]; exact X'.warmed.alike) hp hb k1 k2 k3 T' rfl X'
    exact ⟨t2, st t2 a1, b1⟩
  · obtain ⟨k1, k2, k3⟩ := vx_keep h0 e1 hS hAX hf hL hF
    obtain ⟨t2, a1, b1⟩ := kx E ce q u t T'.heap (locs ++ L) e1.symm (by rw [← e2]; exact X'.warmed.alike) hp hb k1 k2 k3 (by rw [e1]; exact hce) hcv hcl T' rfl X'
    exact ⟨t2, st.trans a1, b1⟩
theorem vx_calll {S SX : Type} {post : Int64 → S → Prop} {px : SX → Prop} {B : S → State → Prop} {BX : String → SX → State → Prop} {AX : Nat → Prop} (hr : vx_Run p l e R s m args below meth c H locs cells slots mc ms (F0 m pc ls st0) rest (va_Ql post B A1 a) (vx_X px BX AX) free) (hS : va_S A0 H0 H locs) (hA : ∀ q, q < H.size → A1 q → A0 q) (hf : ∀ q, free q → A0 q) (hAX : ∀ q, q < H.size → AX q → A0 q)
    (kx : ∀ (E : String) (ce : Cell) (q9 : Addr) (u : SX) (t : State) (H1 : Heap) (locs1 : List Loc), t.heap = H1 → s.vm.Alike t.vm → px u → BX E u t → H.size ≤ H1.size → (∀ q : Nat, q < H.size → ¬ AX q → H1[q]? = H[q]?) → va_S A0 H0 H1 locs1 → H1[q9]? = some ce → ce.vm = .none → s.vm.findClass E = some ce.cls → vx_W p l e R s m args below meth c H1 locs1 (cells + mc) (slots + ms) Q (F0 m pc ls rest) q9)
    (kk : ∀ (r : Int64) (u : S) (t : State) (H1 : Heap) (locs1 : List Loc), t.heap = H1 → s.vm.Alike t.vm → post r u → B u t → H.size ≤ H1.size → (∀ q : Nat, q < H.size → ¬ A1 q → H1[q]? = H[q]?) → va_S A0 H0 H1 locs1 → W p l e R s m args below meth c H1 locs1 (cells + mc) (slots + ms) Q (F0 m (pc + 3) ls (.long r :: rest))) : W p l e R s m args below meth c H locs cells slots Q (F0 m pc ls st0) := by
  intro T hT X
  rcases hr T hT X with ⟨v, st₀, t, T', L, h0, X', hL, e1, e2, ⟨⟨r, u, hv, hp, hb⟩, hF⟩, st⟩ | ⟨q, st₀, t, T', L, E, ce, h0, X', hL, e1, e2, ⟨u, hp, hb, hF⟩, hce, hcv, hcl, st⟩
  · cases hv
    obtain ⟨k1, k2, k3⟩ := vx_keep h0 e1 hS hA hf hL hF
    obtain ⟨t2, a1, b1⟩ := kk r u t T'.heap (locs ++ L) e1.symm (by rw [← e2]; exact X'.warmed.alike) hp hb k1 k2 k3 T' rfl X'
    exact ⟨t2, st t2 a1, b1⟩
  · obtain ⟨k1, k2, k3⟩ := vx_keep h0 e1 hS hAX hf hL hF
    obtain ⟨t2, a1, b1⟩ := kx E ce q u t T'.heap (locs ++ L) e1.symm (by rw [← e2]; exact X'.warmed.alike) hp hb k1 k2 k3 (by rw [e1]; exact hce) hcv hcl T' rfl X'
    exact ⟨t2, st.trans a1, b1⟩
theorem vx_callf {S SX : Type} {post : UInt32 → S → Prop} {px : SX → Prop} {B : S → State → Prop} {BX : String → SX → State → Prop} {AX : Nat → Prop} (hr : vx_Run p l e R s m args below meth c H locs cells slots mc ms (F0 m pc ls st0) rest (va_Qf post B A1 a) (vx_X px BX AX) free) (hS : va_S A0 H0 H locs) (hA : ∀ q, q < H.size → A1 q → A0 q) (hf : ∀ q, free q → A0 q) (hAX : ∀ q, q < H.size → AX q → A0 q)
    (kx : ∀ (E : String) (ce : Cell) (q9 : Addr) (u : SX) (t : State) (H1 : Heap) (locs1 : List Loc), t.heap = H1 → s.vm.Alike t.vm → px u → BX E u t → H.size ≤ H1.size → (∀ q : Nat, q < H.size → ¬ AX q → H1[q]? = H[q]?) → va_S A0 H0 H1 locs1 → H1[q9]? = some ce → ce.vm = .none → s.vm.findClass E = some ce.cls → vx_W p l e R s m args below meth c H1 locs1 (cells + mc) (slots + ms) Q (F0 m pc ls rest) q9)
    (kk : ∀ (r : UInt32) (u : S) (t : State) (H1 : Heap) (locs1 : List Loc), t.heap = H1 → s.vm.Alike t.vm → post r u → B u t → H.size ≤ H1.size → (∀ q : Nat, q < H.size → ¬ A1 q → H1[q]? = H[q]?) → va_S A0 H0 H1 locs1 → W p l e R s m args below meth c H1 locs1 (cells + mc) (slots + ms) Q (F0 m (pc + 3) ls (.float r :: rest))) : W p l e R s m args below meth c H locs cells slots Q (F0 m pc ls st0) := by
  intro T hT X
  rcases hr T hT X with ⟨v, st₀, t, T', L, h0, X', hL, e1, e2, ⟨⟨r, u, hv, hp, hb⟩, hF⟩, st⟩ | ⟨q, st₀, t, T', L, E, ce, h0, X', hL, e1, e2, ⟨u, hp, hb, hF⟩, hce, hcv, hcl, st⟩
  · cases hv
    obtain ⟨k1, k2, k3⟩ := vx_keep h0 e1 hS hA hf hL hF
    obtain ⟨t2, a1, b1⟩ := kk r u t T'.heap (locs ++ L) e1.symm (by rw [← e2]; exact X'.warmed.alike) hp hb k1 k2 k3 T' rfl X'
    exact ⟨t2, st t2 a1, b1⟩
  · obtain ⟨k1, k2, k3⟩ := vx_keep h0 e1 hS hAX hf hL hF
    obtain ⟨t2, a1, b1⟩ := kx E ce q u t T'.heap (locs ++ L) e1.symm (by rw [← e2]; exact X'.warmed.alike) hp hb k1 k2 k3 (by rw [e1]; exact hce) hcv hcl T' rfl X'
    exact ⟨t2, st.trans a1, b1⟩
theorem vx_calld {S SX : Type} {post : UInt64 → S → Prop} {px : SX → Prop} {B : S → State → Prop} {BX : String → SX → State → Prop} {AX : Nat → Prop} (hr : vx_Run p l e R s m args below meth c H locs cells slots mc ms (F0 m pc ls st0) rest (va_Qd post B A1 a) (vx_X px BX AX) free) (hS : va_S A0 H0 H locs) (hA : ∀ q, q < H.size → A1 q → A0 q) (hf : ∀ q, free q → A0 q) (hAX : ∀ q, q < H.size → AX q → A0 q)
    (kx : ∀ (E : String) (ce : Cell) (q9 : Addr) (u : SX) (t : State) (H1 : Heap) (locs1 : List Loc), t.heap = H1 → s.vm.Alike t.vm → px u → BX E u t → H.size ≤ H1.size → (∀ q : Nat, q < H.size → ¬ AX q → H1[q]? = H[q]?) → va_S A0 H0 H1 locs1 → H1[q9]? = some ce → ce.vm = .none → s.vm.findClass E = some ce.cls → vx_W p l e R s m args below meth c H1 locs1 (cells + mc) (slots + ms) Q (F0 m pc ls rest) q9)
    (kk : ∀ (r : UInt64) (u : S) (t : State) (H1 : Heap) (locs1 : List Loc), t.heap = H1 → s.vm.Alike t.vm → post r u → B u t → H.size ≤ H1.size → (∀ q : Nat, q < H.size → ¬ A1 q → H1[q]? = H[q]?) → va_S A0 H0 H1 locs1 → W p l e R s m args below meth c H1 locs1 (cells + mc) (slots + ms) Q (F0 m (pc + 3) ls (.double r :: rest))) : W p l e R s m args below meth c H locs cells slots Q (F0 m pc ls st0) := by
  intro T hT X
  rcases hr T hT X with ⟨v, st₀, t, T', L, h0, X', hL, e1, e2, ⟨⟨r, u, hv, hp, hb⟩, hF⟩, st⟩ | ⟨q, st₀, t, T', L, E, ce, h0, X', hL, e1, e2, ⟨u, hp, hb, hF⟩, hce, hcv, hcl, st⟩
  · cases hv
    obtain ⟨k1, k2, k3⟩ := vx_keep h0 e1 hS hA hf hL hF
    obtain ⟨t2, a1, b1⟩ := kk r u t T'.heap (locs ++ L) e1.symm (by rw [← e2]; exact X'.warmed.alike) hp hb k1 k2 k3 T' rfl X'
    exact ⟨t2, st t2 a1, b1⟩
  · obtain ⟨k1, k2, k3⟩ := vx_keep h0 e1 hS hAX hf hL hF
    obtain ⟨t2, a1, b1⟩ := kx E ce q u t T'.heap (locs ++ L) e1.symm (by rw [← e2]; exact X'.warmed.alike) hp hb k1 k2 k3 (by rw [e1]; exact hce) hcv hcl T' rfl X'
    exact ⟨t2, st.trans a1, b1⟩
theorem vx_callv {S SX : Type} {post : S → Prop} {px : SX → Prop} {B : S → State → Prop} {BX : String → SX → State → Prop} {AX : Nat → Prop} (hr : vx_Run p l e R s m args below meth c H locs cells slots mc ms (F0 m pc ls st0) rest (va_Qv post B A1 a) (vx_X px BX AX) free) (hS : va_S A0 H0 H locs) (hA : ∀ q, q < H.size → A1 q → A0 q) (hf : ∀ q, free q → A0 q) (hAX : ∀ q, q < H.size → AX q → A0 q)
    (kx : ∀ (E : String) (ce : Cell) (q9 : Addr) (u : SX) (t : State) (H1 : Heap) (locs1 : List Loc), t.heap = H1 → s.vm.Alike t.vm → px u → BX E u t → H.size ≤ H1.size → (∀ q : Nat, q < H.size → ¬ AX q → H1[q]? = H[q]?) → va_S A0 H0 H1 locs1 → H1[q9]? = some ce → ce.vm = .none → s.vm.findClass E = some ce.cls → vx_W p l e R s m args below meth c H1 locs1 (cells + mc) (slots + ms) Q (F0 m pc ls rest) q9)
    (kk : ∀ (u : S) (t : State) (H1 : Heap) (locs1 : List Loc), t.heap = H1 → s.vm.Alike t.vm → post u → B u t → H.size ≤ H1.size → (∀ q : Nat, q < H.size → ¬ A1 q → H1[q]? = H[q]?) → va_S A0 H0 H1 locs1 → W p l e R s m args below meth c H1 locs1 (cells + mc) (slots + ms) Q (F0 m (pc + 3) ls (rest))) : W p l e R s m args below meth c H locs cells slots Q (F0 m pc ls st0) := by
  intro T hT X
  rcases hr T hT X with ⟨v, st₀, t, T', L, h0, X', hL, e1, e2, ⟨⟨u, hv, hp, hb⟩, hF⟩, st⟩ | ⟨q, st₀, t, T', L, E, ce, h0, X', hL, e1, e2, ⟨u, hp, hb, hF⟩, hce, hcv, hcl, st⟩
  · cases hv
    obtain ⟨k1, k2, k3⟩ := vx_keep h0 e1 hS hA hf hL hF
    obtain ⟨t2, a1, b1⟩ := kk u t T'.heap (locs ++ L) e1.symm (by rw [← e2]; exact X'.warmed.alike) hp hb k1 k2 k3 T' rfl X'
    exact ⟨t2, st t2 a1, b1⟩
  · obtain ⟨k1, k2, k3⟩ := vx_keep h0 e1 hS hAX hf hL hF
    obtain ⟨t2, a1, b1⟩ := kx E ce q u t T'.heap (locs ++ L) e1.symm (by rw [← e2]; exact X'.warmed.alike) hp hb k1 k2 k3 (by rw [e1]; exact hce) hcv hcl T' rfl X'
    exact ⟨t2, st.trans a1, b1⟩
/-- caught by the row x of this method's table; the rows ahead don't take it -/
theorem vx_catch {own name : String} {E : String} {ce : Cell} {q : Addr} (hown : s.vm.findClass own = some m.cls) (pre : List ExceptionTableEntry) (x : ExceptionTableEntry) (suf : List ExceptionTableEntry) (hsplit : c.exceptionTable.toList = pre ++ x :: suf)
    (hpass : ∀ z ∈ pre, covers z pc = false ∨ (z.catchType ≠ 0 ∧ ∃ nm : String, (Cond.classLink own z.catchType nm).before args s = true ∧ va_Nc E nm s)) (hx : covers x pc = true) (h0 : x.catchType ≠ 0)
    (hlink : (Cond.classLink own x.catchType name).before args s = true) (hcast : (Cond.castable E name).before args s = true) (hcell : H[q]? = some ce) (hv : ce.vm = .none) (hcl : s.vm.findClass E = some ce.cls)
    (kk : W p l e R s m args below meth c H locs cells slots Q (F0 m x.handlerPc ls [.ref q])) : vx_W p l e R s m args below meth c H locs cells slots Q (F0 m pc ls rest) q := by
  intro T hT X
  have hpl : e.platform.magicAccessors = ({} : Platform).magicAccessors := by rw [X.admits.platform]
  obtain ⟨c3, c4, hc3, hc4, hasg⟩ := Cond.castable_spec hcast
  cases Option.some.inj (hc3.symm.trans hcl)
  obtain ⟨c5, hc5, hcl5⟩ := Cond.classLink_spec hown hlink e.platform hpl
  cases Option.some.inj (hc4.symm.trans hc5)
  obtain ⟨vm', X', st⟩ := X.thenCaughtThrough q (g := F0 m pc ls rest) rfl (Steps.refl _) (by rw [hT]; exact hcell) (by rw [hv]; rfl) (by obtain ⟨k9, h9, -⟩ := Vm.findClass_spec hcl; exact ⟨k9, h9⟩) pre x suf hsplit
    (fun z hz => by
      rcases hpass z hz with h | ⟨hz0, nm, hl1, hn1⟩
      · exact Or.inl h
      · obtain ⟨c6, hc6, hcl6⟩ := Cond.classLink_spec hown hl1 e.platform hpl
        obtain ⟨a8, b8, h1, h2, h3⟩ := hn1
        cases Option.some.inj (h1.symm.trans hcl)
        cases Option.some.inj (h2.symm.trans hc6)
        exact Or.inr ⟨hz0, _, hcl6, h3⟩) hx (Or.inr ⟨h0, c4, hcl5, hasg⟩)
  obtain ⟨t, a1, b1⟩ := kk (T.setVm vm') hT X'
  exact ⟨t, st.trans a1, b1⟩
end Rows
section Ends
variable {p : Program} {l : Launch} {e : Env} {R : Room} {s : State} {m : MethodId} {args : Array Value} {below : List Frame} {meth : Method} {c : Code} {H : Heap} {locs : List Loc} {cells slots : Nat} {Q : State → Prop}
variable {mc ms : Nat} {free : Addr → Prop} {A0 A1 : Nat → Prop} {H0 : Heap} {a : Array Value} {ls : Array Slot} {st0 rest : List Value}
variable {Qc : Array Value → State → Outcome → State → Prop} {XC : String → State → State → Prop}
/-- what a body that may throw owes at its end -/
def vx_MQ (below : List Frame) (Qc : Array Value → State → Outcome → State → Prop) (XC : String → State → State → Prop) (a : Array Value) (s : State) (mc ms : Nat) (free : Addr → Prop) : State → Prop := fun t =>
  ∃ o, t.status = .running ∧ Ended t below o ∧ vx_Q Qc XC mc ms free a s o t
theorem vx_ret {g : JFrame} {mc ms : Nat} (k : W p l e R s m args below meth c H locs cells slots (MQ below Qc args s mc ms free) g) : W p l e R s m args below meth c H locs cells slots (vx_MQ below Qc XC args s mc ms free) g := by
  intro T hT X
  obtain ⟨t, a1, o, b1, b2, b3, b4⟩ := k T hT X
  exact ⟨t, a1, o, b1, b2, Or.inl ⟨b3, b4⟩⟩
/-- not caught here: it goes on to the caller -/
theorem vx_widen {g : JFrame} {q : Addr} {k n : Nat} (h1 : cells ≤ k) (h2 : slots ≤ n) (kk : vx_W p l e R s m args below meth c H locs k n Q g q) : vx_W p l e R s m args below meth c H locs cells slots Q g q := fun T hT X => kk T hT (stand_widen X h1 h2)
theorem vx_out {pc : Nat} {E : String} {ce : Cell} {q : Addr} {mc ms : Nat} (hout : ∀ x ∈ c.exceptionTable.toList, covers x pc = false) (hlocks : meth.locks = false) (hcell : H[q]? = some ce) (hv : ce.vm = .none) (hcl : s.vm.findClass E = some ce.cls)
    (hx : ∀ t : State, t.heap = H → s.vm.Alike t.vm → XC E s t) (hf : ∀ z ∈ locs, free z.base) (hc : cells ≤ mc) (hs : slots ≤ ms) :
    vx_W p l e R s m args below meth c H locs cells slots (vx_MQ below Qc XC args s mc ms free) (F0 m pc ls rest) q := by
  intro T hT X
  obtain ⟨st1, hrun, hend, hW, hsm⟩ := X.leaveThrown q (g := F0 m pc ls rest) rfl rfl rfl hout hlocks
  have hcell9 : (T.setFrames (.throwing q :: below)).heap[q]? = some ce := by
    show T.heap[q]? = some ce
    rw [hT]; exact hcell
  exact ⟨_, st1, .threw q, hrun, hend, Or.inr ⟨q, rfl, E, ce, locs, hx _ hT hW.alike, hcell9, hv, hcl, hW, hsm.mono hc hs, hf⟩⟩
theorem vx_frame {U : State} {k n : Nat} (h : s.sameButNew ({ U with vm := s.vm } : State) locs k n) : s.heap.size ≤ U.heap.size ∧ ∀ q : Nat, q < s.heap.size → (∀ z ∈ locs, z.base ≠ q) → U.heap[q]? = s.heap[q]? := by
  obtain ⟨-, h2, -, -, -, h6⟩ := h
  refine ⟨h2, fun q hq hz => ?_⟩
  obtain ⟨c9, e1, e2, e3, e4⟩ := h6 q _ (Array.getElem?_eq_getElem hq)
  have hs : c9.slots = (s.heap[q]).slots := Array.ext_getElem? fun i => e4 i fun hm => hz _ hm rfl
  have h9 : c9 = s.heap[q] := by
    rw [hs] at e2
    exact e2
  have e5 : U.heap[q]? = some c9 := e1
  rw [e5, h9, Array.getElem?_eq_getElem hq]
/-- the words of a throw but the four that speak of the heap -/
def vx_no (w : Cond) : Bool := decide (w ≠ .isRef (.static Bundle.tN "UNASSIGNED_STACK" Bundle.steD)) && decide (w ≠ .isRef (.static Bundle.tN "SUPPRESSED_SENTINEL" Bundle.listD)) && decide (w ≠ .laysStatic Bundle.tN "UNASSIGNED_STACK" Bundle.steD) && decide (w ≠ .laysStatic Bundle.tN "SUPPRESSED_SENTINEL" Bundle.listD)
def vx_at0 (own : String) (ic : Nat) (X : String) (names : List String) : List Cond := (Bundle.ownAtoms0 own ic X names).filter vx_no
def vx_atS (own : String) (ic : Nat) (X : String) (names : List String) : List Cond := (Bundle.ownAtoms own ic X names).filter vx_no
/-- a word that the tables alone decide, or a good one -/
def vx_ot (w : Cond) : Bool := w.onTables || goodWord w
theorem vx_ot_at {args a' : Array Value} {s U : State} {w : Cond} (hW : s.WarmedH U.vm) (hvm : s.vm = U.vm) (hg : vx_ot w = true) (h : w.before args s = true) : w.before a' U = true := by
  simp only [vx_ot, Bool.or_eq_true] at hg
  rcases hg with hg | hg
  · exact va_tabs hg hvm h
  · exact word_at hW (good_of_word hg) h
/-- a list's words: the good ones out of the method's own list, the others by premises of their own -/
theorem vx_hat {args : Array Value} {s : State} {L B : List Cond} (h1 : ∀ w ∈ L.filter goodWord, w.before args s = true) (h2 : ∀ w ∈ L.filter (fun w => !goodWord w), w ∈ B) (h3 : ∀ w ∈ B, w.before args s = true) : ∀ w ∈ L, w.before args s = true := by
  intro w hw
  by_cases g : goodWord w = true
  · exact h1 w (List.mem_filter.mpr ⟨hw, g⟩)
  · refine h3 w (h2 w (List.mem_filter.mpr ⟨hw, ?_⟩))
    show (!goodWord w) = true
    cases hgw : goodWord w
    · rfl
    · exact absurd hgw g
theorem vx_c {args : Array Value} {s : State} {w : Cond} {B : List Cond} (h : w.before args s = true) (t : ∀ w ∈ B, w.before args s = true) : ∀ w' ∈ w :: B, w'.before args s = true := fun w' h' => (List.mem_cons.mp h').elim (fun e => by rw [e]; exact h) (t w')
theorem vx_n {args : Array Value} {s : State} : ∀ w ∈ ([] : List Cond), w.before args s = true := fun _ h => nomatch h
theorem vx_own {args : Array Value} {s : State} {L : List Cond} (h1 : ∀ w ∈ L.filter vx_no, w.before args s = true)
    (hU : (Cond.isRef (.static Bundle.tN "UNASSIGNED_STACK" Bundle.steD)).before args s = true) (hN : (Cond.isRef (.static Bundle.tN "SUPPRESSED_SENTINEL" Bundle.listD)).before args s = true)
    (lU : (Cond.laysStatic Bundle.tN "UNASSIGNED_STACK" Bundle.steD).before args s = true) (lN : (Cond.laysStatic Bundle.tN "SUPPRESSED_SENTINEL" Bundle.listD).before args s = true) : ∀ w ∈ L, w.before args s = true := by
  intro w hw
  by_cases e1 : w = .isRef (.static Bundle.tN "UNASSIGNED_STACK" Bundle.steD)
  · rw [e1]; exact hU
  · by_cases e2 : w = .isRef (.static Bundle.tN "SUPPRESSED_SENTINEL" Bundle.listD)
    · rw [e2]; exact hN
    · by_cases e3 : w = .laysStatic Bundle.tN "UNASSIGNED_STACK" Bundle.steD
      · rw [e3]; exact lU
      · by_cases e4 : w = .laysStatic Bundle.tN "SUPPRESSED_SENTINEL" Bundle.listD
        · rw [e4]; exact lN
        · exact h1 w (List.mem_filter.mpr ⟨hw, by unfold vx_no; rw [decide_eq_true e1, decide_eq_true e2, decide_eq_true e3, decide_eq_true e4]; rfl⟩)
/-- where a static field lies, its class's statics cell in H -/
def vx_L (C n d : String) (A : Nat → Prop) (U : State) (H : Heap) : Prop := ∃ (c : ClassId) (k : Class) (i : Nat) (f : Field) (a : Nat) (cell : Cell), U.vm.findClass C = some c ∧ U.fieldFound? C n d = some (c, k, i, f) ∧ f.isStatic = true ∧ k.statics = some a ∧ H[a]? = some cell ∧ cell.vm.isStatics = true ∧ cell.cls = c ∧ f.slot < cell.slots.size ∧ k.staticTypes[f.slot]? = some f.type ∧ ¬ A a
theorem vx_L.moved {C n d : String} {A : Nat → Prop} {u U : State} {H : Heap} (hvm : u.vm.Alike U.vm) (h : vx_L C n d A u H) : vx_L C n d A U H := by
  obtain ⟨c, k, i, f, a, cell, h1, h2, h3, h4, h5, h6, h7, h8, h9, h10⟩ := h
  obtain ⟨k', hi', he⟩ := State.fieldFound?_setVm hvm h2
  exact ⟨c, k', i, f, a, cell, by rw [hvm.findClass]; exact h1, hi', h3, by rw [he]; exact h4, h5, h6, h7, h8, by rw [he]; exact h9, h10⟩
theorem vx_L.kept {C n d : String} {A : Nat → Prop} {U : State} {H H1 : Heap} (h : vx_L C n d A U H) (hq : ∀ a : Nat, a < H.size → ¬ A a → H1[a]? = H[a]?) : vx_L C n d A U H1 := by
  obtain ⟨c, k, i, f, a, cell, h1, h2, h3, h4, h5, h6, h7, h8, h9, h10⟩ := h
  exact ⟨c, k, i, f, a, cell, h1, h2, h3, h4, by rw [hq a (Array.getElem?_eq_some_iff.mp h5).1 h10]; exact h5, h6, h7, h8, h9, h10⟩
theorem vx_L.narrow {C n d : String} {A B : Nat → Prop} {U : State} {H : Heap} (h : vx_L C n d A U H) (hAB : ∀ q, B q → A q) : vx_L C n d B U H := by
  obtain ⟨c, k, i, f, a, cell, h1, h2, h3, h4, h5, h6, h7, h8, h9, h10⟩ := h
  exact ⟨c, k, i, f, a, cell, h1, h2, h3, h4, h5, h6, h7, h8, h9, fun z => h10 (hAB _ z)⟩
theorem vx_L.word {C n d : String} {A : Nat → Prop} {s : State} {args : Array Value} (h : vx_L C n d A s s.heap) : (Cond.laysStatic C n d).before args s = true := by
  obtain ⟨c, k, i, f, a, cell, h1, h2, h3, h4, h5, h6, h7, h8, h9, -⟩ := h
  show (Cond.laysStatic C n d).holds args s none s [] = true
  exact Cond.laysStatic_of h1 h2 h3 h4 h5 h6 h7 h8 h9
/-- .. and what it holds: null or some reference -/
def vx_Zq (C n d : String) (A : Nat → Prop) (U : State) (H : Heap) : Prop := va_Zq C n d A U H ∧ vx_L C n d A U H
theorem vx_Zq.moved {C n d : String} {A : Nat → Prop} {u U : State} {H : Heap} (hvm : u.vm.Alike U.vm) (h : vx_Zq C n d A u H) : vx_Zq C n d A U H := ⟨va_Zq.moved hvm h.1, vx_L.moved hvm h.2⟩
theorem vx_Zq.kept {C n d : String} {A : Nat → Prop} {U : State} {H H1 : Heap} (h : vx_Zq C n d A U H) (hq : ∀ a : Nat, a < H.size → ¬ A a → H1[a]? = H[a]?) : vx_Zq C n d A U H1 := ⟨va_Zq.kept h.1 hq, vx_L.kept h.2 hq⟩
theorem vx_Zq.narrow {C n d : String} {A B : Nat → Prop} {U : State} {H : Heap} (h : vx_Zq C n d A U H) (hAB : ∀ q, B q → A q) : vx_Zq C n d B U H := ⟨va_Zq.narrow h.1 hAB, vx_L.narrow h.2 hAB⟩
theorem vx_Zqof {args : Array Value} {s : State} {C n d : String} {A : Nat → Prop} (hl : (Cond.laysStatic C n d).before args s = true) (hini : (Cond.initialized C).before args s = true) (h : (Cond.isRef (.static C n d)).before args s = true) (hA : ∀ a : Nat, a < s.heap.size → ¬ A a) : vx_Zq C n d A s s.heap := by
  refine ⟨va_Zqof hl hini h hA, ?_⟩
  obtain ⟨c, k, i, f, a, cell, h1, h2, h3, h4, h5, h6, h7, h8, h9⟩ := Cond.laysStatic_spec hl
  exact ⟨c, k, i, f, a, cell, h1, h2, h3, h4, h5, h6, h7, h8, h9, hA a (Array.getElem?_eq_some_iff.mp h5).1⟩
theorem vx_isRef {C n d : String} {v : Value} {A : Nat → Prop} {s : State} {args : Array Value} (h : va_Z C n d v A s s.heap) (hv : v.isRef = true) : (Cond.isRef (.static C n d)).before args s = true := by
  obtain ⟨cf, kf, fi, f, a, cell, h1, h2, h3, h4, h5, h6, h7, -⟩ := h
  have he : (Term.static C n d).eval args s none [] s = some v := by
    simp [Term.eval, State.fieldNamed?, h1, h2, h4, h5, h6, h7]
  simp only [Cond.before, Cond.holds, Cond.value, he]
  cases v <;> simp_all [Value.isRef]
theorem vx_isRefq {C n d : String} {A : Nat → Prop} {s : State} {args : Array Value} (h : va_Zq C n d A s s.heap) : (Cond.isRef (.static C n d)).before args s = true := by
  rcases h with h | ⟨t, h⟩
  · exact vx_isRef h rfl
  · exact vx_isRef h rfl
/-- the same frame, seen from here: as if the method were called anew in this heap -/
theorem vx_rebase {T : State} (X : Stand p l e R s m args below meth c T locs cells slots) {R' : Room} (hf : R'.frames ≤ R.frames) (hl : R'.locals ≤ R.locals) (hc : cells + R'.cells ≤ R.cells) (hs : slots + R'.slots ≤ R.slots) :
    Stand p l e R' ((T.setVm s.vm).setFrames (.invoking m args :: below)) m args below meth c T [] 0 0 := by
  have htop : (T.setVm s.vm).topJava?.isSome := X.here.top
  have hF : ((T.setVm s.vm).setFrames (.invoking m args :: below)).frames = .invoking m args :: below := State.frames_setFrames _ (State.cur_lt_of_top htop)
  obtain ⟨g₀, hg0⟩ := Option.isSome_iff_exists.mp htop
  obtain ⟨r, hr⟩ := State.topJava?_eq_some.mp hg0
  have hl9 : e.platform.stackLimits (T.setVm s.vm).me = e.platform.stackLimits s.me := X.limits
  have hb9 : (T.setVm s.vm).me.stackBytes = s.me.stackBytes := X.bytes
  refine ⟨X.admits, X.cas, X.clock, hF, ?_, X.hears, X.method, X.code, X.here, X.tail, X.warmed, ?_, ?_, ?_⟩
  · have h := X.room
    have hU : ((T.setVm s.vm).setFrames (.invoking m args :: below)).localsInUse = s.localsInUse := by
      rw [State.localsInUse_invoking hF (meth := meth) (c := c) X.method X.code, State.localsInUse_invoking X.frames X.method X.code]
    simp only [State.hasRoom, Bool.and_eq_true, decide_eq_true_eq] at h ⊢
    obtain ⟨⟨⟨⟨h1, h2, h3, h4, h5, h6⟩, h7⟩, h8⟩, h9⟩ := h
    rw [X.frames, List.length_cons] at h2 h3
    have q1 := X.heapSize
    have q2 := X.used
    simp only [hF, hU, List.length_cons, State.stackLimits_setFrames, State.stackBytes_setFrames, hl9, hb9]
    refine ⟨⟨⟨⟨by omega, by omega, by omega, by omega, by omega, h6⟩, ?_⟩, ?_⟩, X.book⟩
    · show T.heap.size + R'.cells ≤ e.platform.maxCells
      omega
    · show T.slotsUsed + R'.slots ≤ e.platform.maxSlots
      omega
  · rw [State.stackLimits_setFrames]; rfl
  · rw [State.stackBytes_setFrames]; rfl
  · refine ⟨?_, Nat.le_refl _, Nat.le_refl _, ?_, ?_, fun a c9 h9 => ⟨c9, h9, rfl, rfl, fun _ _ => rfl⟩⟩
    · obtain ⟨t, ht, -⟩ := State.frames_cons hr
      show T.setVm s.vm = { ((T.setVm s.vm).setFrames (.invoking m args :: below)).setFrames (T.setVm s.vm).frames with heap := T.heap, slotsUsed := T.slotsUsed }
      rw [State.setFrames_setFrames, State.setFrames_self ht]
      rfl
    · show T.slotsUsed = T.slotsUsed + ((T.heap.toList.drop T.heap.size).map (·.slots.size)).sum
      rw [List.drop_eq_nil_of_le (Nat.le_of_eq Array.length_toList)]
      rfl
    · show ((T.heap.toList.drop T.heap.size).map (·.slots.size)).sum ≤ 0
      rw [List.drop_eq_nil_of_le (Nat.le_of_eq Array.length_toList)]
      exact Nat.le_refl _
/-- 'throw new E()': new; dup; invokespecial; athrow -/
theorem vx_throw0 {cc : ByteArray} {pc : Nat} (hexec : p.tables.exec = Jvm.exec) (hb : c.code = cc) (hl : l.stackTraces = false) {own cls : String} {names : List String} {ik ic mc ms : Nat} {A : Nat → Prop}
    (hown : s.vm.findClass own = some m.cls) (hcls : Bundle.fit cls = true) (hnames : ∀ n ∈ names, Bundle.fit n = true)
    (hk : (Cond.classLink own ik cls).before args s = true) (hini : (Cond.initialized cls).before args s = true) (hat : ∀ w ∈ vx_at0 own ic cls names, w.before args s = true)
    (hgood : ∀ w ∈ Cond.classLink own ik cls :: Cond.initialized cls :: vx_at0 own ic cls names, vx_ot w = true)
    (hU : vx_Zq Bundle.tN "UNASSIGNED_STACK" Bundle.steD A s s.heap) (hN : vx_Zq Bundle.tN "SUPPRESSED_SENTINEL" Bundle.listD A s s.heap) (hS : va_S A s.heap H locs) (hsize : ls.size = c.maxLocals)
    (d0 : decode cc pc = .ok (.new ik, 3)) (d3 : decode cc (pc + 3) = .ok (.dup, 1)) (d4 : decode cc (pc + 4) = .ok (.invokespecial ic, 3)) (d7 : decode cc (pc + 7) = .ok (.athrow, 1))
    (hout : ∀ x ∈ c.exceptionTable.toList, covers x (pc + 7) = false)
    (hRframes : names.length + 3 < R.frames) (hRlocals : (rest.map fun v => v.category).sum + (13 * (names.length + 1) + 42) ≤ R.locals) (hRcells : cells + 1 ≤ R.cells) (hRslots : slots + 6 ≤ R.slots) (hlocks : meth.locks = false)
    (hx : ∀ t : State, s.vm.Alike t.vm → H.size ≤ t.heap.size → (∀ q : Nat, q < H.size → t.heap[q]? = H[q]?) → XC cls s t)
    (hf : ∀ z ∈ locs, free z.base) (hc : cells + 1 ≤ mc) (hs : slots + 6 ≤ ms) :
    W p l e R s m args below meth c H locs cells slots (vx_MQ below Qc XC args s mc ms free) (F0 m pc ls rest) := by
  intro T hT X
  have htr : e.platform.stackTraces = false := (show e.platform.stackTraces = l.stackTraces by rw [X.admits.platform]).trans hl
  have Y := vx_rebase X (R' := { frames := R.frames, locals := R.locals, cells := 1, slots := 6 }) (Nat.le_refl _) (Nat.le_refl _) hRcells hRslots
  obtain ⟨s', hA⟩ : ∃ z, z = (T.setVm s.vm).setFrames (.invoking m args :: below) := ⟨_, rfl⟩
  rw [← hA] at Y
  have hvm : s'.vm = s.vm := by rw [hA]; rfl
  have hhp : s'.heap = H := by rw [hA]; exact hT
  have hW0 : s.WarmedH s'.vm := by rw [hvm]; exact State.WarmedH.refl s
  have hat' : ∀ w ∈ vx_at0 own ic cls names, w.before args s' = true := fun w hw => vx_ot_at hW0 hvm.symm (hgood w (List.mem_cons_of_mem _ (List.mem_cons_of_mem _ hw))) (hat w hw)
  have hk' : (Cond.classLink own ik cls).before args s' = true := vx_ot_at hW0 hvm.symm (hgood _ List.mem_cons_self) hk
  have hini' : (Cond.initialized cls).before args s' = true := vx_ot_at hW0 hvm.symm (hgood _ (List.mem_cons_of_mem _ List.mem_cons_self)) hini
  have hU' : vx_Zq Bundle.tN "UNASSIGNED_STACK" Bundle.steD A s' s'.heap := by rw [hhp]; exact vx_Zq.moved hW0.alike (hU.kept hS.2.1)
  have hN' : vx_Zq Bundle.tN "SUPPRESSED_SENTINEL" Bundle.listD A s' s'.heap := by rw [hhp]; exact vx_Zq.moved hW0.alike (hN.kept hS.2.1)
  have h : ∀ w ∈ Bundle.ownAtoms0 own ic cls names, w.before args s' = true := vx_own hat' (vx_isRefq hU'.1) (vx_isRefq hN'.1) hU'.2.word hN'.2.word
  have hown' : s'.vm.findClass own = some m.cls := by rw [hvm]; exact hown
  have hins : (Cond.instantiable cls 6).before args s' = true := h _ (by simp [Bundle.ownAtoms0])
  obtain ⟨vm₁, cX, kX, hfX, hkX, -, -, X₁, st1⟩ := Y.newCold hexec (own := own) (C := cls) (index := ik) (n := 6) hown' hk' hins hini'
    (g := F0 m pc ls rest) rfl (by rw [hb]; exact d0) (Nat.le_refl _) (Nat.le_refl _)
  generalize hT1 : (T.setVm vm₁).pushCell { cls := cX, slots := kX.instanceTypes.map defaultValue, vm := .none } = T1 at X₁ st1
  have hcat : (Value.ref T.heap.size).category = 1 := rfl
  have hcellA : T1.heap[T.heap.size]? = some (freshCell cX kX) := by rw [← hT1]; exact State.heap_pushCell_size _ _
  have d3' : decode c.code (pc + 3) = .ok (.dup, 1) := by rw [hb]; exact d3
  obtain ⟨U, hsteps, hrun, hend, hW, hsame, ce, hce, hO⟩ := X₁.ctorThrow0 hexec htr (own := own) (cls := cls) (names := names) (ic := ic) hown' hcls hnames h (fun x hx => nomatch hx) hfX hkX hcellA (by rw [hhp, hT]; exact Nat.le_refl _)
    (g := { method := m, pc := pc + 4, locals := ls, stack := .ref T.heap.size :: .ref T.heap.size :: rest, locked := none }) rfl hsize rfl rfl (rest := rest) rfl
    (by rw [hb]; exact d4) (by rw [hb]; exact d7) hout hRframes (by simp only [List.map_cons, List.sum_cons, hcat]; omega) hlocks
  obtain ⟨f1, f2⟩ := vx_frame hsame
  rw [hhp] at f1 f2
  have hWs : s.WarmedH U.vm := State.WarmedH.trans hW0 hW
  have hcl : s.vm.findClass cls = some ce.cls := by
    have h9 := hO.cls
    rw [hvm] at h9
    exact h9
  have hall : s.sameButNew ({ U with vm := s.vm } : State) locs mc ms := by
    subst hA
    obtain ⟨e1, e2⟩ := hsame
    rw [State.setFrames_setFrames] at e1
    have h2 : (T.setVm s.vm).sameButNew ({ U with vm := s.vm } : State) [] (0 + 1) (0 + 6) := ⟨e1, e2⟩
    have h3 := X.same.trans h2
    rw [List.append_nil] at h3
    exact h3.mono hc hs
  refine ⟨U, ?_, .threw T.heap.size, hrun, hend, Or.inr ⟨T.heap.size, rfl, cls, ce, locs, hx U hWs.alike f1 (fun q hq => f2 q hq (fun z hz => nomatch hz)), hce, hO.vm, hcl, hWs, hall, hf⟩⟩
  refine st1 _ ?_
  show Steps p.tables e below (T1.setTop { method := m, pc := pc + 3, locals := ls, stack := .ref T.heap.size :: rest, locked := none }) _
  jvm_step X₁.here [X₁.here.top, hexec, d3', Value.category]
  exact hsteps
/-- 'throw new E("text")': new; dup; ldc; invokespecial; athrow -/
theorem vx_throwS {cc : ByteArray} {pc : Nat} (hexec : p.tables.exec = Jvm.exec) (hb : c.code = cc) (hl : l.stackTraces = false) {own cls text : String} {names : List String} {ik is ic mc ms sa : Nat} {A : Nat → Prop}
    (hown : s.vm.findClass own = some m.cls) (hcls : Bundle.fit cls = true) (hnames : ∀ n ∈ names, Bundle.fit n = true)
    (hk : (Cond.classLink own ik cls).before args s = true) (hini : (Cond.initialized cls).before args s = true) (hstr : vk_R own is text sa s) (hat : ∀ w ∈ vx_atS own ic cls names, w.before args s = true)
    (hgood : ∀ w ∈ Cond.classLink own ik cls :: Cond.initialized cls :: vx_atS own ic cls names, vx_ot w = true)
    (hU : vx_Zq Bundle.tN "UNASSIGNED_STACK" Bundle.steD A s s.heap) (hN : vx_Zq Bundle.tN "SUPPRESSED_SENTINEL" Bundle.listD A s s.heap) (hS : va_S A s.heap H locs) (hsize : ls.size = c.maxLocals)
    (d0 : decode cc pc = .ok (.new ik, 3)) (d3 : decode cc (pc + 3) = .ok (.dup, 1)) (d4 : decode cc (pc + 4) = .ok (.ldc is, 2)) (d6 : decode cc (pc + 6) = .ok (.invokespecial ic, 3)) (d9 : decode cc (pc + 9) = .ok (.athrow, 1))
    (hout : ∀ x ∈ c.exceptionTable.toList, covers x (pc + 9) = false)
    (hRframes : names.length + 3 < R.frames) (hRlocals : (rest.map fun v => v.category).sum + (13 * (names.length + 1) + 43) ≤ R.locals) (hRcells : cells + 1 ≤ R.cells) (hRslots : slots + 6 ≤ R.slots) (hlocks : meth.locks = false)
    (hx : ∀ t : State, s.vm.Alike t.vm → H.size ≤ t.heap.size → (∀ q : Nat, q < H.size → t.heap[q]? = H[q]?) → XC cls s t)
    (hf : ∀ z ∈ locs, free z.base) (hc : cells + 1 ≤ mc) (hs : slots + 6 ≤ ms) :
    W p l e R s m args below meth c H locs cells slots (vx_MQ below Qc XC args s mc ms free) (F0 m pc ls rest) := by
  intro T hT X
  have htr : e.platform.stackTraces = false := (show e.platform.stackTraces = l.stackTraces by rw [X.admits.platform]).trans hl
  have Y := vx_rebase X (R' := { frames := R.frames, locals := R.locals, cells := 1, slots := 6 }) (Nat.le_refl _) (Nat.le_refl _) hRcells hRslots
  obtain ⟨s', hA⟩ : ∃ z, z = (T.setVm s.vm).setFrames (.invoking m args :: below) := ⟨_, rfl⟩
  rw [← hA] at Y
  have hvm : s'.vm = s.vm := by rw [hA]; rfl
  have hhp : s'.heap = H := by rw [hA]; exact hT
  have hW0 : s.WarmedH s'.vm := by rw [hvm]; exact State.WarmedH.refl s
  have hat' : ∀ w ∈ vx_atS own ic cls names, w.before args s' = true := fun w hw => vx_ot_at hW0 hvm.symm (hgood w (List.mem_cons_of_mem _ (List.mem_cons_of_mem _ hw))) (hat w hw)
  have hk' : (Cond.classLink own ik cls).before args s' = true := vx_ot_at hW0 hvm.symm (hgood _ List.mem_cons_self) hk
  have hini' : (Cond.initialized cls).before args s' = true := vx_ot_at hW0 hvm.symm (hgood _ (List.mem_cons_of_mem _ List.mem_cons_self)) hini
  have hU' : vx_Zq Bundle.tN "UNASSIGNED_STACK" Bundle.steD A s' s'.heap := by rw [hhp]; exact vx_Zq.moved hW0.alike (hU.kept hS.2.1)
  have hN' : vx_Zq Bundle.tN "SUPPRESSED_SENTINEL" Bundle.listD A s' s'.heap := by rw [hhp]; exact vx_Zq.moved hW0.alike (hN.kept hS.2.1)
  have h : ∀ w ∈ Bundle.ownAtoms own ic cls names, w.before args s' = true := vx_own hat' (vx_isRefq hU'.1) (vx_isRefq hN'.1) hU'.2.word hN'.2.word
  have hown' : s'.vm.findClass own = some m.cls := by rw [hvm]; exact hown
  have hins : (Cond.instantiable cls 6).before args s' = true := h _ (by simp [Bundle.ownAtoms])
  obtain ⟨vm₁, cX, kX, hfX, hkX, -, -, X₁, st1⟩ := Y.newCold hexec (own := own) (C := cls) (index := ik) (n := 6) hown' hk' hins hini'
    (g := F0 m pc ls rest) rfl (by rw [hb]; exact d0) (Nat.le_refl _) (Nat.le_refl _)
  generalize hT1 : (T.setVm vm₁).pushCell { cls := cX, slots := kX.instanceTypes.map defaultValue, vm := .none } = T1 at X₁ st1
  have hcat : (Value.ref T.heap.size).category = 1 := rfl
  have hcellA : T1.heap[T.heap.size]? = some (freshCell cX kX) := by rw [← hT1]; exact State.heap_pushCell_size _ _
  have d3' : decode c.code (pc + 3) = .ok (.dup, 1) := by rw [hb]; exact d3
  have d4' : decode c.code (pc + 4) = .ok (.ldc is, 2) := by rw [hb]; exact d4
  have hstr' : vk_R own is text sa s' := vk_R.warm hW0 hstr
  obtain ⟨U, hsteps, hrun, hend, hW, hsame, ce, hce, hO⟩ := X₁.ctorThrowS hexec htr (own := own) (cls := cls) (names := names) (ic := ic) hown' hcls hnames h (fun x hx => nomatch hx) hfX hkX hcellA (by rw [hhp, hT]; exact Nat.le_refl _) (msg := .ref sa) rfl
    (g := { method := m, pc := pc + 6, locals := ls, stack := .ref sa :: .ref T.heap.size :: .ref T.heap.size :: rest, locked := none }) rfl hsize rfl rfl (rest := rest) rfl
    (by rw [hb]; exact d6) (by rw [hb]; exact d9) hout hRframes (by simp only [List.map_cons, List.sum_cons, hcat]; omega) hlocks
  obtain ⟨f1, f2⟩ := vx_frame hsame
  rw [hhp] at f1 f2
  have hWs : s.WarmedH U.vm := State.WarmedH.trans hW0 hW
  have hcl : s.vm.findClass cls = some ce.cls := by
    have h9 := hO.cls
    rw [hvm] at h9
    exact h9
  have hall : s.sameButNew ({ U with vm := s.vm } : State) locs mc ms := by
    subst hA
    obtain ⟨e1, e2⟩ := hsame
    rw [State.setFrames_setFrames] at e1
    have h2 : (T.setVm s.vm).sameButNew ({ U with vm := s.vm } : State) [] (0 + 1) (0 + 6) := ⟨e1, e2⟩
    have h3 := X.same.trans h2
    rw [List.append_nil] at h3
    exact h3.mono hc hs
  refine ⟨U, ?_, .threw T.heap.size, hrun, hend, Or.inr ⟨T.heap.size, rfl, cls, ce, locs, hx U hWs.alike f1 (fun q hq => f2 q hq (fun z hz => nomatch hz)), hce, hO.vm, hcl, hWs, hall, hf⟩⟩
  refine st1 _ ?_
  show Steps p.tables e below (T1.setTop { method := m, pc := pc + 3, locals := ls, stack := .ref T.heap.size :: rest, locked := none }) _
  jvm_step X₁.here [X₁.here.top, hexec, d3', Value.category]
  exact X₁.ldcString hexec (own := own) (text := text) (index := is) (a := sa) hown' hstr'.1 hstr'.2
    (g := { method := m, pc := pc + 4, locals := ls, stack := .ref T.heap.size :: .ref T.heap.size :: rest, locked := none }) rfl d4' _ hsteps
/-- 'throw new E("text")', the text by a wide index -/
theorem vx_throwSW {cc : ByteArray} {pc : Nat} (hexec : p.tables.exec = Jvm.exec) (hb : c.code = cc) (hl : l.stackTraces = false) {own cls text : String} {names : List String} {ik is ic mc ms sa : Nat} {A : Nat → Prop}
    (hown : s.vm.findClass own = some m.cls) (hcls : Bundle.fit cls = true) (hnames : ∀ n ∈ names, Bundle.fit n = true)
    (hk : (Cond.classLink own ik cls).before args s = true) (hini : (Cond.initialized cls).before args s = true) (hstr : vk_R own is text sa s) (hat : ∀ w ∈ vx_atS own ic cls names, w.before args s = true)
    (hgood : ∀ w ∈ Cond.classLink own ik cls :: Cond.initialized cls :: vx_atS own ic cls names, vx_ot w = true)
    (hU : vx_Zq Bundle.tN "UNASSIGNED_STACK" Bundle.steD A s s.heap) (hN : vx_Zq Bundle.tN "SUPPRESSED_SENTINEL" Bundle.listD A s s.heap) (hS : va_S A s.heap H locs) (hsize : ls.size = c.maxLocals)
    (d0 : decode cc pc = .ok (.new ik, 3)) (d3 : decode cc (pc + 3) = .ok (.dup, 1)) (d4 : decode cc (pc + 4) = .ok (.ldc_w is, 3)) (d7 : decode cc (pc + 7) = .ok (.invokespecial ic, 3)) (d10 : decode cc (pc + 10) = .ok (.athrow, 1))
    (hout : ∀ x ∈ c.exceptionTable.toList, covers x (pc + 10) = false)
    (hRframes : names.length + 3 < R.frames) (hRlocals : (rest.map fun v => v.category).sum + (13 * (names.length + 1) + 43) ≤ R.locals) (hRcells : cells + 1 ≤ R.cells) (hRslots : slots + 6 ≤ R.slots) (hlocks : meth.locks = false)
    (hx : ∀ t : State, s.vm.Alike t.vm → H.size ≤ t.heap.size → (∀ q : Nat, q < H.size → t.heap[q]? = H[q]?) → XC cls s t)
    (hf : ∀ z ∈ locs, free z.base) (hc : cells + 1 ≤ mc) (hs : slots + 6 ≤ ms) :
    W p l e R s m args below meth c H locs cells slots (vx_MQ below Qc XC args s mc ms free) (F0 m pc ls rest) := by
  intro T hT X
  have htr : e.platform.stackTraces = false := (show e.platform.stackTraces = l.stackTraces by rw [X.admits.platform]).trans hl
  have Y := vx_rebase X (R' := { frames := R.frames, locals := R.locals, cells := 1, slots := 6 }) (Nat.le_refl _) (Nat.le_refl _) hRcells hRslots
  obtain ⟨s', hA⟩ : ∃ z, z = (T.setVm s.vm).setFrames (.invoking m args :: below) := ⟨_, rfl⟩
  rw [← hA] at Y
  have hvm : s'.vm = s.vm := by rw [hA]; rfl
  have hhp : s'.heap = H := by rw [hA]; exact hT
  have hW0 : s.WarmedH s'.vm := by rw [hvm]; exact State.WarmedH.refl s
  have hat' : ∀ w ∈ vx_atS own ic cls names, w.before args s' = true := fun w hw => vx_ot_at hW0 hvm.symm (hgood w (List.mem_cons_of_mem _ (List.mem_cons_of_mem _ hw))) (hat w hw)
  have hk' : (Cond.classLink own ik cls).before args s' = true := vx_ot_at hW0 hvm.symm (hgood _ List.mem_cons_self) hk
  have hini' : (Cond.initialized cls).before args s' = true := vx_ot_at hW0 hvm.symm (hgood _ (List.mem_cons_of_mem _ List.mem_cons_self)) hini
  have hU' : vx_Zq Bundle.tN "UNASSIGNED_STACK" Bundle.steD A s' s'.heap := by rw [hhp]; exact vx_Zq.moved hW0.alike (hU.kept hS.2.1)
  have hN' : vx_Zq Bundle.tN "SUPPRESSED_SENTINEL" Bundle.listD A s' s'.heap := by rw [hhp]; exact vx_Zq.moved hW0.alike (hN.kept hS.2.1)
  have h : ∀ w ∈ Bundle.ownAtoms own ic cls names, w.before args s' = true := vx_own hat' (vx_isRefq hU'.1) (vx_isRefq hN'.1) hU'.2.word hN'.2.word
  have hown' : s'.vm.findClass own = some m.cls := by rw [hvm]; exact hown
  have hins : (Cond.instantiable cls 6).before args s' = true := h _ (by simp [Bundle.ownAtoms])
  obtain ⟨vm₁, cX, kX, hfX, hkX, -, -, X₁, st1⟩ := Y.newCold hexec (own := own) (C := cls) (index := ik) (n := 6) hown' hk' hins hini'
    (g := F0 m pc ls rest) rfl (by rw [hb]; exact d0) (Nat.le_refl _) (Nat.le_refl _)
  generalize hT1 : (T.setVm vm₁).pushCell { cls := cX, slots := kX.instanceTypes.map defaultValue, vm := .none } = T1 at X₁ st1
  have hcat : (Value.ref T.heap.size).category = 1 := rfl
  have hcellA : T1.heap[T.heap.size]? = some (freshCell cX kX) := by rw [← hT1]; exact State.heap_pushCell_size _ _
  have d3' : decode c.code (pc + 3) = .ok (.dup, 1) := by rw [hb]; exact d3
  have d4' : decode c.code (pc + 4) = .ok (.ldc_w is, 3) := by rw [hb]; exact d4
  have hstr' : vk_R own is text sa s' := vk_R.warm hW0 hstr
  obtain ⟨U, hsteps, hrun, hend, hW, hsame, ce, hce, hO⟩ := X₁.ctorThrowS hexec htr (own := own) (cls := cls) (names := names) (ic := ic) hown' hcls hnames h (fun x hx => nomatch hx) hfX hkX hcellA (by rw [hhp, hT]; exact Nat.le_refl _) (msg := .ref sa) rfl
    (g := { method := m, pc := pc + 7, locals := ls, stack := .ref sa :: .ref T.heap.size :: .ref T.heap.size :: rest, locked := none }) rfl hsize rfl rfl (rest := rest) rfl
    (by rw [hb]; exact d7) (by rw [hb]; exact d10) hout hRframes (by simp only [List.map_cons, List.sum_cons, hcat]; omega) hlocks
  obtain ⟨f1, f2⟩ := vx_frame hsame
  rw [hhp] at f1 f2
  have hWs : s.WarmedH U.vm := State.WarmedH.trans hW0 hW
  have hcl : s.vm.findClass cls = some ce.cls := by
    have h9 := hO.cls
    rw [hvm] at h9
    exact h9
  have hall : s.sameButNew ({ U with vm := s.vm } : State) locs mc ms := by
    subst hA
    obtain ⟨e1, e2⟩ := hsame
    rw [State.setFrames_setFrames] at e1
    have h2 : (T.setVm s.vm).sameButNew ({ U with vm := s.vm } : State) [] (0 + 1) (0 + 6) := ⟨e1, e2⟩
    have h3 := X.same.trans h2
    rw [List.append_nil] at h3
    exact h3.mono hc hs
  refine ⟨U, ?_, .threw T.heap.size, hrun, hend, Or.inr ⟨T.heap.size, rfl, cls, ce, locs, hx U hWs.alike f1 (fun q hq => f2 q hq (fun z hz => nomatch hz)), hce, hO.vm, hcl, hWs, hall, hf⟩⟩
  refine st1 _ ?_
  show Steps p.tables e below (T1.setTop { method := m, pc := pc + 3, locals := ls, stack := .ref T.heap.size :: rest, locked := none }) _
  jvm_step X₁.here [X₁.here.top, hexec, d3', Value.category]
  exact X₁.ldcStringW hexec (own := own) (text := text) (index := is) (a := sa) hown' hstr'.1 hstr'.2
    (g := { method := m, pc := pc + 4, locals := ls, stack := .ref T.heap.size :: .ref T.heap.size :: rest, locked := none }) rfl d4' _ hsteps
end Ends
section Bodies
variable {l : Launch}
theorem vx_ofW {y : MethodName} {ws ws' : List Cond} {rm : Room} {Pc : Array Value → State → Prop} {Qc : Array Value → State → Outcome → State → Prop} {XC : String → State → State → Prop} {mc ms : Nat} {free : Addr → Prop} {cc : ByteArray} {maxL : Nat} {ret : Option FieldType}
    (hy : plainName y.cls = true) (hw : ws = Cond.code y cc maxL ret :: ws')
    (body : ∀ p e s m args below meth c s₁, BodyLoose p l y (headSpec ws rm) cc maxL ret e s m args below meth c s₁ → c.maxLocals = maxL → (∀ x ∈ c.exceptionTable.toList, False) → Pc args s →
      W p l e (headSpec ws rm).room s m args below meth c s.heap [] 0 0 (vx_MQ below Qc XC args s mc ms free) (entryFrame m args maxL)) : vx_Met l y ws rm Pc Qc XC mc ms free := by
  refine MetFree.of_bodyS (code := cc) (maxLocals := maxL) (ret := ret) hy ?_ ?_
  · intro args s m h hn
    obtain ⟨meth, c, h1, h2, h3, h4, h5, h6, -, -⟩ := Cond.code_spec hn (atoms_spec (ws := ws) h _ (by rw [hw]; exact List.mem_cons_self))
    exact ⟨meth, c, h1, h2, h3, h4, h5, h6⟩
  · intro p e s m args below meth c s₁ B hml hP _
    have hh0 : s₁.heap = s.heap := by rw [B.state]; rfl
    have ht : ∀ x ∈ c.exceptionTable.toList, False := by
      obtain ⟨meth9, c9, h1, h2, -, -, -, -, h7, -⟩ := Cond.code_spec B.named (atoms_spec (ws := ws) B.pre _ (by rw [hw]; exact List.mem_cons_self))
      cases Option.some.inj (h1.symm.trans B.method)
      cases Option.some.inj (h2.symm.trans (Stand.of_body B).code)
      intro x hx
      rw [Array.isEmpty_iff.mp h7] at hx
      cases hx
    obtain ⟨t, a1, o, b1, b2, b3⟩ := body p e s m args below meth c s₁ B hml ht hP s₁ hh0 (Stand.of_body B)
    exact ⟨t, o, a1, b1, b2, b3⟩
/-- the table of a body with handlers -/
theorem vx_table {p : Program} {x y : MethodName} {S : Spec} {cc bytes : ByteArray} {maxL maxL' : Nat} {ret ret' : Option FieldType} {e : Env} {s s₁ : State} {m : MethodId} {args : Array Value} {below : List Frame} {meth : Method} {c : Code} {hh : List (Nat × Nat × Nat × Nat)}
    (B : BodyLoose p l y S cc maxL ret e s m args below meth c s₁) (h : (Cond.codeWith y bytes maxL' ret' hh).before args s = true) : c.exceptionTable.toList = tableOf hh := by
  obtain ⟨m9, meth9, c9, hn9, h1, h2, -, -, h6, -⟩ := Cond.codeWith_spec h
  cases Option.some.inj (hn9.symm.trans B.named)
  cases Option.some.inj (h1.symm.trans B.method)
  cases Option.some.inj (h2.symm.trans (Stand.of_body B).code)
  rw [← h6, table_eq]
end Bodies
end VXA
/-! ===== END ===== -/
/-! ===== BEGIN a static call of a method with an exception table ===== -/
section VXS
variable {p : Program} {l : Launch} {e : Env} {R : Room} {s : State} {m : MethodId} {args : Array Value} {below : List Frame} {meth : Method} {c : Code} {T : State} {H : Heap} {locs : List Loc} {cells slots : Nat}
abbrev vx_CSW (R : Room) (s : State) (args : Array Value) (own : String) (index : Nat) (y : MethodName) (bytes : ByteArray) (maxL : Nat) (ret : Option FieldType) (hh : List (Nat × Nat × Nat × Nat)) (ws : List Cond) (rm : Room) (mc ms n : Nat) : Prop :=
  (rm.cells = mc ∧ rm.slots = ms ∧ rm.frames + 1 ≤ R.frames ∧ 8 + (maxL + 11) + rm.locals ≤ R.locals ∧ (∀ w ∈ ws, ∀ (a' : Array Value) (U : State), s.WarmedH U.vm → w.before a' U = true) ∧ Cond.codeWith y bytes maxL ret hh ∈ ws) ∧
  (Cond.codeWith y bytes maxL ret hh).before args s = true ∧ (Cond.initialized y.cls).before args s = true ∧ (y.cls ≠ "java/lang/invoke/MethodHandle" ∧ y.cls ≠ "java/lang/invoke/VarHandle") ∧
  (∀ sig, parseMethodDescriptor y.desc = some sig → n = sig.parameters.length) ∧ (Cond.methodLink own index y).before args s = true ∧ (Cond.static y).before args s = true
theorem vx_cwSW {own : String} {index maxL mc ms : Nat} {y : MethodName} {bytes : ByteArray} {ret : Option FieldType} {hh : List (Nat × Nat × Nat × Nat)} {Ts ws ws' : List Cond} {rm : Room} (n : Nat) (ht : ∀ w ∈ Ts, w.before args s = true) (hT : GoodIn Ts (va_wsS own index y ws)) (hw : ws = Cond.codeWith y bytes maxL ret hh :: ws') (hrc : rm.cells = mc) (hrs : rm.slots = ms)
    (hd : y.cls ≠ "java/lang/invoke/MethodHandle" ∧ y.cls ≠ "java/lang/invoke/VarHandle" ∧ (parseMethodDescriptor y.desc).map (fun d => d.parameters.length) = some n) (hR : rm.frames + 1 ≤ R.frames ∧ 8 + (maxL + 11) + rm.locals ≤ R.locals) :
    vx_CSW R s args own index y bytes maxL ret hh ws rm mc ms n := by
  have ok : ∀ w ∈ va_wsS own index y ws, w.before args s = true := fun w h => ht w (hT w h).1
  have hG : GoodIn Ts ws := fun w h => hT w (by unfold va_wsS; exact List.mem_append_right _ h)
  have hc : Cond.codeWith y bytes maxL ret hh ∈ ws := by rw [hw]; exact List.mem_cons_self
  refine ⟨⟨hrc, hrs, hR.1, hR.2, pay_in ht hG, hc⟩, ht _ (hG _ hc).1, ok _ (by simp [va_wsS]), ⟨hd.1, hd.2.1⟩, fun sig h => ?_, ok _ (by simp [va_wsS]), ok _ (by simp [va_wsS])⟩
  have h2 := hd.2.2
  rw [h] at h2
  exact (Option.some.inj h2).symm
theorem vx_callSW (X : Stand p l e R s m args below meth c T locs cells slots) (hexec : p.tables.exec = Jvm.exec) {own : String} {index : Nat} {y : MethodName} {bytes : ByteArray} {maxL : Nat} {ret : Option FieldType} {hh : List (Nat × Nat × Nat × Nat)}
    (hown : s.vm.findClass own = some m.cls) (hlink : (Cond.methodLink own index y).before args s = true) (hstat : (Cond.static y).before args s = true) (hinit : (Cond.initialized y.cls).before args s = true)
    (hcode : (Cond.codeWith y bytes maxL ret hh).before args s = true) (hy : y.cls ≠ "java/lang/invoke/MethodHandle" ∧ y.cls ≠ "java/lang/invoke/VarHandle")
    {W9 : Nat} {Pre : Pt → Array Value → Prop} {Post : Pt → Array Value → Option Value → Pt → Prop} (hK : Back l R p e below s args y 3 W9 Pre Post)
    {g : JFrame} (hg : g.method = m) (hsize : g.locals.size = c.maxLocals) {argsL rest : List Value} (hlen : ∀ sig, parseMethodDescriptor y.desc = some sig → argsL.length = sig.parameters.length)
    (hstack : g.stack = argsL.reverse ++ rest) (hW : 2 * g.monitorRoom + (rest.map fun v => v.category).sum ≤ W9) (hdg : decode c.code g.pc = .ok (.invokestatic index, 3))
    (hpre : ∀ vm₁, s.WarmedH vm₁ → Pre ⟨T.setVm vm₁, locs, cells, slots⟩ argsL.toArray) :
    ∃ (v : Option Value) (vm₁ : Vm) (B : Pt), s.WarmedH vm₁ ∧ Stand p l e R s m args below meth c B.U B.locs B.cells B.slots ∧ Post ⟨T.setVm vm₁, locs, cells, slots⟩ argsL.toArray v B ∧
      ∀ target, Steps p.tables e below (B.U.setTop { g with pc := g.pc + 3, stack := v.toList ++ rest }) target → Steps p.tables e below (T.setTop g) target := by
  obtain ⟨mk, methM, cM, hnamed, hmethM, -, -, -, -, -, -, hsigM⟩ := Cond.codeWith_spec hcode
  have hstatic : methM.isStatic = true := Cond.static_spec hnamed hmethM hstat
  obtain ⟨kP, hkP, -⟩ := className_of_methodNamed hnamed
  have hinitP : kP.init = .initialized := Cond.initialized_spec (findClass_of_methodNamed hnamed) hkP hinit
  obtain ⟨vm₁, X₁, hstep₁⟩ := X.invokestatic hexec hown hlink hnamed hmethM hstatic hkP hinitP hy (g := g) hg (argsL := argsL) (rest := rest) (hlen _ hsigM) hstack hdg
  obtain ⟨v, B, X', hpost, hsteps⟩ := hK m meth c ⟨T.setVm vm₁, locs, cells, slots⟩ { g with stack := rest } (.invokestatic index) mk argsL.toArray X₁ hg hsize hdg hW (X₁.named hnamed) (hpre vm₁ X₁.warmed)
  exact ⟨v, vm₁, B, X₁.warmed, X', hpost, fun target h => hstep₁ _ fun acts => by rw [doInvoke_state]; exact hsteps.trans h⟩
theorem vx_runSW {y : MethodName} {bytes cc : ByteArray} {maxL nL mc ms n index : Nat} {ret : Option FieldType} {hh : List (Nat × Nat × Nat × Nat)} {ws : List Cond} {rm : Room} {Pc : Array Value → State → Prop} {Qc : Array Value → State → Outcome → State → Prop} {free : Addr → Prop} {Ts : List Cond} {own : String} {As rest : List Value} {g : JFrame}
    (S : CallFix p m c cc nL s args Ts own) (hM : Met l y ws rm Pc Qc mc ms free) (cw : vx_CSW R s args own index y bytes maxL ret hh ws rm mc ms n) (hp : PreS s H Pc As)
    (hg : g.method = m) (hn : As.length = n) (hsize : g.locals.size = nL) (hstack : g.stack = As.reverse ++ rest) (hW : 2 * g.monitorRoom + (rest.map fun v => v.category).sum ≤ 8) (hdg : decode cc g.pc = .ok (.invokestatic index, 3)) (hf : cells + mc ≤ R.cells ∧ slots + ms ≤ R.slots) :
    va_Run p l e R s m args below meth c H locs cells slots mc ms g rest (Qc As.toArray) (free) := by
  obtain ⟨⟨hrc, hrs, hfr, hlo, hws, hcw⟩, hcode, hini, hy, hlen, hl, hstt⟩ := cw
  have hK : Back l R p e below s args y 3 8 (PreOf R mc ms Pc) (PostOf Qc mc ms free) := va_backW (hh := hh) (bytes := bytes) (maxL := maxL) (ret := ret) hM hp.1 hrc hrs hfr hlo hws hcw (fun a' U hW => word_at hW (Or.inl (by first | rfl | simp [Cond.onTables, Cond.keeps, Cond.steady])) hini)
  obtain ⟨hx, hb, hml, ho, -⟩ := S
  intro T hT X
  obtain ⟨v, vm₁, ⟨U', l2, c2, s2⟩, hW₁, X', ⟨g', mk, t, L, e1, e2, hq, h1, hL, h2, h3⟩, st⟩ := vx_callSW X hx (hh := hh) (bytes := bytes) (maxL := maxL) (ret := ret) ho hl hstt hini hcode hy hK hg (hsize.trans hml.symm) (argsL := As) (rest := rest) (fun sig h => hn.trans (hlen sig h)) hstack hW (by rw [hb]; exact hdg)
    (fun vm₁ hW₁ => ⟨hf.1, hf.2, hp.2 (T.setVm vm₁) hT hW₁⟩)
  dsimp only [Pt.U, Pt.locs, Pt.cells, Pt.slots] at X' e1 e2 h1 h2 h3 st
  subst h1; subst h2; subst h3
  exact ⟨v, (T.setVm vm₁).calling g' mk As.toArray, t, U', L, hT, X', hL, e1, e2, hq, st⟩
/-- not caught here, past rows that name other classes: it goes on to the caller -/
theorem vx_outP {p : Program} {l : Launch} {e : Env} {R : Room} {s : State} {m : MethodId} {args : Array Value} {below : List Frame} {meth : Method} {c : Code} {H : Heap} {locs : List Loc} {cells slots : Nat} {free : Addr → Prop} {ls : Array Slot} {rest : List Value} {Qc : Array Value → State → Outcome → State → Prop} {XC : String → State → State → Prop}
    {pc : Nat} {own E : String} {ce : Cell} {q : Addr} {mc ms : Nat} (hown : s.vm.findClass own = some m.cls) (hlocks : meth.locks = false)
    (hpass : ∀ z ∈ c.exceptionTable.toList, covers z pc = false ∨ (z.catchType ≠ 0 ∧ ∃ nm : String, (Cond.classLink own z.catchType nm).before args s = true ∧ va_Nc E nm s)) (hcell : H[q]? = some ce) (hv : ce.vm = .none) (hcl : s.vm.findClass E = some ce.cls)
    (hx : ∀ t : State, t.heap = H → s.vm.Alike t.vm → XC E s t) (hf : ∀ z ∈ locs, free z.base) (hc : cells ≤ mc) (hs : slots ≤ ms) :
    vx_W p l e R s m args below meth c H locs cells slots (vx_MQ below Qc XC args s mc ms free) (F0 m pc ls rest) q := by
  intro T hT X
  have hpl : e.platform.magicAccessors = ({} : Platform).magicAccessors := by rw [X.admits.platform]
  obtain ⟨vm', hW', X', st⟩ := X.outThrough hlocks q (g := F0 m pc ls rest) rfl rfl rfl (cell := ce) (by rw [hT]; exact hcell) (by rw [hv]; rfl)
    (by obtain ⟨k9, h9, -⟩ := Vm.findClass_spec hcl; exact ⟨k9, h9⟩) (fun z hz => by
      rcases hpass z hz with h | ⟨hz0, nm, hl1, hn1⟩
      · exact Or.inl h
      · obtain ⟨c6, hc6, hcl6⟩ := Cond.classLink_spec hown hl1 e.platform hpl
        obtain ⟨a8, b8, h1, h2, h3⟩ := hn1
        cases Option.some.inj (h1.symm.trans hcl)
        cases Option.some.inj (h2.symm.trans hc6)
        exact Or.inr ⟨hz0, _, hcl6, h3⟩)
  obtain ⟨g₀, hfr⟩ := X'.frames_eq
  have hcell9 : ((T.setVm vm').setFrames (.throwing q :: below)).heap[q]? = some ce := by
    show T.heap[q]? = some ce
    rw [hT]; exact hcell
  have hend : Ended ((T.setVm vm').setFrames (.throwing q :: below)) below (.threw q) := State.frames_setFrames _ (State.cur_lt_of_frames hfr)
  refine ⟨(T.setVm vm').setFrames (.throwing q :: below), ?_, .threw q, X'.here.running, hend, Or.inr ⟨q, rfl, E, ce, locs, hx _ hT (X'.ends _).1.alike, hcell9, hv, hcl, (X'.ends _).1, (X'.ends _).2.mono hc hs, hf⟩⟩
  rw [X.pushThrowing_eq]
  exact st
/-- a thing of a world lies in the heap -/
theorem vx_lt {D : va_G} {cl : List vw_C} {ws : va_W} {H1 : Heap} (h : va_P D cl ws H1) {k : Nat} {q : Nat × va_E} (hk : ws[k]? = some q) : q.1 < H1.size := (h k q hk).lt
end VXS
/-! ===== END ===== -/
/-! ===== BEGIN methods with a table of their own: called by a name, returning or throwing ===== -/
section VXH
/-! vx_backW, vx_callVX, vx_callSX, vx_callVW, vx_runVW, vx_runVX, vx_runSX, vx_ofWH follow the same proofs as their sisters above (Free/Laws.lean, Shelf42/LK1.lean); vx_outP calls Shelf42/NT130.lean (outThrough). -/
section
variable {l : Launch} {R : Room} {p : Program} {e : Env} {below : List Frame} {s : State} {sargs : Array Value} {y : MethodName} {len W9 : Nat}
theorem vx_backW {ws : List Cond} {rm : Room} {Pc : Array Value → State → Prop} {Qc : Array Value → State → Outcome → State → Prop} {XC : String → State → State → Prop} {mc ms : Nat} {free : Addr → Prop} {bytes : ByteArray} {maxL : Nat} {ret : Option FieldType} {hh : List (Nat × Nat × Nat × Nat)}
    (hM : vx_Met l y ws rm Pc Qc XC mc ms free) (hblind : FrameBlind Pc) (hrc : rm.cells = mc) (hrs : rm.slots = ms)
    (hframes : rm.frames + 1 ≤ R.frames) (hlocals : W9 + (maxL + 11) + rm.locals ≤ R.locals)
    (hws : ∀ w ∈ ws, ∀ a' U, s.WarmedH U.vm → w.before a' U = true) (hcode : Cond.codeWith y bytes maxL ret hh ∈ ws) (hinit : ∀ a' U, s.WarmedH U.vm → (Cond.initialized y.cls).before a' U = true) :
    vx_Back l R p e below s sargs y len W9 (PreOf R mc ms Pc) (PostOf Qc mc ms free) (vx_Post XC mc ms free) := by
  intro m meth c A g ig mk a X hg hsize hdg hW hn hp
  have h1 : (headSpec ws rm).pre.before a A.U = true := atoms_intro fun w hw => hws w hw _ _ X.warmed
  have h2 : (Cond.codeWith y bytes maxL ret hh).before a A.U = true := hws _ hcode _ _ X.warmed
  have h3 : (Cond.initialized y.cls).before a A.U = true := hinit _ _ X.warmed
  have h4 : A.cells + (headSpec ws rm).room.cells ≤ R.cells := by rw [show (headSpec ws rm).room.cells = mc from hrc]; exact hp.1
  have h5 : A.slots + (headSpec ws rm).room.slots ≤ R.slots := by rw [show (headSpec ws rm).room.slots = ms from hrs]; exact hp.2.1
  have hPc : Pc a (A.U.calling g mk a) := hblind _ _ _ _ hp.2.2
  obtain ⟨U, Ls, c0, s0⟩ := A
  dsimp only [Pt.U, Pt.locs, Pt.cells, Pt.slots] at h1 h2 h3 h4 h5 X hn hPc ⊢
  obtain ⟨m9, methY, cY, hn9, hmY, hcY, -, hlY, -⟩ := Cond.codeWith_spec h2
  cases Option.some.inj (hn9.symm.trans hn)
  obtain ⟨kY, hkY, -⟩ := className_of_methodNamed hn
  have hinitY : kY.init = .initialized := Cond.initialized_spec (findClass_of_methodNamed hn) hkY h3
  have h : At U g.method c below := by rw [hg]; exact X.here
  have hlocals9 : W9 + (maxL + 11) + (headSpec ws rm).room.locals ≤ R.locals := hlocals
  have happ : (headSpec ws rm).appliesLoose y e.platform (U.calling g mk a) = true :=
    Spec.appliesLoose_calling (g := g) h hdg hn hkY hinitY
      (X.room_calling (g := g) (R' := (headSpec ws rm).room) hsize hmY hcY hframes (by rw [hlY]; omega) h4 h5) h1
  obtain ⟨mid, hmid⟩ := h.above
  have hfr : (U.setTop g).frames = (.java g :: mid) ++ below := by rw [State.frames_setTop' g h.top, hmid]; rfl
  obtain ⟨o, s₂, hsteps, -, hend, hq⟩ := Steps.callFree hM p X.admits X.cas X.clock (acts := []) hfr happ hPc trivial
  have hq' : vx_Q Qc XC mc ms free a (U.calling g mk a) o s₂ := hq
  rw [State.frames_setTop' g h.top] at hend
  obtain ⟨g₀, hg0⟩ := Option.isSome_iff_exists.mp h.top
  obtain ⟨r, hr⟩ := State.topJava?_eq_some.mp hg0
  have hr' : (({ U with heap := s₂.heap, slotsUsed := s₂.slotsUsed } : State).setVm s₂.vm).frames = .java g₀ :: r := hr
  rcases hq' with ⟨hqc, L, hfe, hL⟩ | ⟨q, rfl, E, ce, L, hx, hce, hcv, hcl, hW₂, hsm, hL⟩
  · obtain ⟨⟨v, rfl⟩, hW₂, e2, q2, q3, q4, q5, q6⟩ := id hfe
    have e3 : s₂ = ({ (U.calling g mk a).setFrames s₂.frames with heap := s₂.heap, slotsUsed := s₂.slotsUsed } : State).setVm s₂.vm := by
      have : s₂ = ({ s₂ with vm := (U.calling g mk a).vm } : State).setVm s₂.vm := rfl
      rw [e2] at this
      exact this
    obtain ⟨c₂, i₂, len₂, hc₂, hd₂, hf₂⟩ := hend
    have hW' : U.WarmedH s₂.vm := hW₂
    have hcc : c₂ = c := by
      have h1 : s₂.code? g.method = U.code? g.method := by
        rw [State.code?_eq, State.code?_eq, hW'.alike.method?]
      exact Option.some.inj (hc₂.symm.trans (h1.trans h.code))
    subst hcc
    have hlen : len₂ = len := by rw [hdg] at hd₂; cases hd₂; rfl
    subst hlen
    have hs₂ : s₂ = (({ U with heap := s₂.heap, slotsUsed := s₂.slotsUsed } : State).setVm s₂.vm).setTop { g with pc := g.pc + len₂, stack := v.toList ++ g.stack } := by
      refine e3.trans ?_
      rw [hf₂, State.calling_eq h.top, State.setFrames_setFrames, State.setTop_of_frames _ hr', hr]
      rfl
    have hsame : U.sameButNew ({ U with heap := s₂.heap, slotsUsed := s₂.slotsUsed } : State) L mc ms := by
      refine ⟨?_, q2, q3, q4, q5, q6⟩
      obtain ⟨t, ht, -⟩ := State.frames_cons hr
      show ({ U with heap := s₂.heap, slotsUsed := s₂.slotsUsed } : State) = { U.setFrames U.frames with heap := s₂.heap, slotsUsed := s₂.slotsUsed }
      rw [State.setFrames_self ht]
    subst hg
    refine Or.inl ⟨v, ⟨(({ U with heap := s₂.heap, slotsUsed := s₂.slotsUsed } : State).setVm s₂.vm), Ls ++ L, c0 + mc, s0 + ms⟩,
      ⟨X.admits, X.cas, X.clock, X.frames, X.room, X.hears, X.method, X.code, (X.here.setHeapUsed s₂.heap s₂.slotsUsed).setVm hW'.alike, X.tail, State.WarmedH.trans X.warmed hW', X.limits, X.bytes, X.same.trans (hsame.setVm s.vm)⟩,
      ⟨g, mk, s₂, L, rfl, rfl, hqc, rfl, hL, rfl, rfl⟩, ?_⟩
    show Steps p.tables e below _ ((({ U with heap := s₂.heap, slotsUsed := s₂.slotsUsed } : State).setVm s₂.vm).setTop { g with pc := g.pc + len₂, stack := v.toList ++ g.stack })
    rw [← hs₂]
    exact hsteps
  · obtain ⟨e2, q2, q3, q4, q5, q6⟩ := id hsm
    have e3 : s₂ = ({ (U.calling g mk a).setFrames s₂.frames with heap := s₂.heap, slotsUsed := s₂.slotsUsed } : State).setVm s₂.vm := by
      have : s₂ = ({ s₂ with vm := (U.calling g mk a).vm } : State).setVm s₂.vm := rfl
      rw [e2] at this
      exact this
    have hf₂ : s₂.frames = .throwing q :: .java g :: U.frames.tail := hend
    have hW' : U.WarmedH s₂.vm := hW₂
    have hs₂ : s₂ = ((({ U with heap := s₂.heap, slotsUsed := s₂.slotsUsed } : State).setVm s₂.vm).setTop g).pushFrame (.throwing q) := by
      refine e3.trans ?_
      rw [hf₂, State.calling_eq h.top, State.setFrames_setFrames, State.pushFrame, State.frames_setTop _ hr', State.setTop_of_frames _ hr', State.setFrames_setFrames, hr]
      rfl
    have hsame : U.sameButNew ({ U with heap := s₂.heap, slotsUsed := s₂.slotsUsed } : State) L mc ms := by
      refine ⟨?_, q2, q3, q4, q5, q6⟩
      obtain ⟨t, ht, -⟩ := State.frames_cons hr
      show ({ U with heap := s₂.heap, slotsUsed := s₂.slotsUsed } : State) = { U.setFrames U.frames with heap := s₂.heap, slotsUsed := s₂.slotsUsed }
      rw [State.setFrames_self ht]
    subst hg
    refine Or.inr ⟨q, ⟨(({ U with heap := s₂.heap, slotsUsed := s₂.slotsUsed } : State).setVm s₂.vm), Ls ++ L, c0 + mc, s0 + ms⟩,
      ⟨X.admits, X.cas, X.clock, X.frames, X.room, X.hears, X.method, X.code, (X.here.setHeapUsed s₂.heap s₂.slotsUsed).setVm hW'.alike, X.tail, State.WarmedH.trans X.warmed hW', X.limits, X.bytes, X.same.trans (hsame.setVm s.vm)⟩,
      ⟨g, mk, s₂, L, E, ce, rfl, rfl, hx, hce, hcv, hcl, rfl, hL, rfl, rfl⟩, ?_⟩
    show Steps p.tables e below _ (((({ U with heap := s₂.heap, slotsUsed := s₂.slotsUsed } : State).setVm s₂.vm).setTop g).pushFrame (.throwing q))
    rw [← hs₂]
    exact hsteps
end
variable {p : Program} {l : Launch} {e : Env} {R : Room} {s : State} {m : MethodId} {args : Array Value} {below : List Frame} {meth : Method} {c : Code} {T : State} {H : Heap} {locs : List Loc} {cells slots : Nat}
theorem vx_callVX (X : Stand p l e R s m args below meth c T locs cells slots) (hexec : p.tables.exec = Jvm.exec) {own C : String} {index : Nat} {y : MethodName} {bytes : ByteArray} {maxL : Nat} {ret : Option FieldType} {hh : List (Nat × Nat × Nat × Nat)}
    (hown : s.vm.findClass own = some m.cls) (hlink : (Cond.methodLink own index y).before args s = true) (hinst : (Cond.instanceMethod y).before args s = true) (hsel : (Cond.selects C y y).before args s = true)
    (hcode : (Cond.codeWith y bytes maxL ret hh).before args s = true) (hy : y.cls ≠ "java/lang/invoke/MethodHandle" ∧ y.cls ≠ "java/lang/invoke/VarHandle")
    {W9 : Nat} {Pre : Pt → Array Value → Prop} {Post : Pt → Array Value → Option Value → Pt → Prop} {PostX : Pt → Array Value → Addr → Pt → Prop} (hK : vx_Back l R p e below s args y 3 W9 Pre Post PostX)
    {b : Addr} {cellB : Cell} (hcell : T.heap[b]? = some cellB) (hobj : cellB.vm.isStatics = false) (hcls : s.vm.findClass C = some cellB.cls)
    {g : JFrame} (hg : g.method = m) (hsize : g.locals.size = c.maxLocals) {argsL rest : List Value} (hlen : ∀ sig, parseMethodDescriptor y.desc = some sig → argsL.length = sig.parameters.length)
    (hstack : g.stack = argsL.reverse ++ .ref b :: rest) (hW : 2 * g.monitorRoom + (rest.map fun v => v.category).sum ≤ W9) (hdg : decode c.code g.pc = .ok (.invokevirtual index, 3))
    (hpre : ∀ vm₁, s.WarmedH vm₁ → Pre ⟨T.setVm vm₁, locs, cells, slots⟩ (Value.ref b :: argsL).toArray) :
    (∃ (v : Option Value) (vm₁ : Vm) (B : Pt), s.WarmedH vm₁ ∧ Stand p l e R s m args below meth c B.U B.locs B.cells B.slots ∧ Post ⟨T.setVm vm₁, locs, cells, slots⟩ (Value.ref b :: argsL).toArray v B ∧
      ∀ target, Steps p.tables e below (B.U.setTop { g with pc := g.pc + 3, stack := v.toList ++ rest }) target → Steps p.tables e below (T.setTop g) target) ∨
    (∃ (q : Addr) (vm₁ : Vm) (B : Pt), s.WarmedH vm₁ ∧ Stand p l e R s m args below meth c B.U B.locs B.cells B.slots ∧ PostX ⟨T.setVm vm₁, locs, cells, slots⟩ (Value.ref b :: argsL).toArray q B ∧
      Steps p.tables e below (T.setTop g) ((B.U.setTop { g with stack := rest }).pushFrame (.throwing q))) := by
  obtain ⟨mk, methM, hnamed, hmethM, hstM, habM⟩ := Cond.instanceMethod_spec hinst
  obtain ⟨m8, methM', cM, hn8, hmethM', -, -, -, -, -, -, hsigM⟩ := Cond.codeWith_spec hcode
  cases Option.some.inj (hn8.symm.trans hnamed)
  cases hmethM.symm.trans hmethM'
  obtain ⟨c2, r2, m2, q1, q2, q3, q4, kP, hkP, hkPi⟩ := Cond.selects_spec hsel
  cases hcls.symm.trans q1
  cases (State.methodFound?_of_named hnamed hy).symm.trans q2
  cases hnamed.symm.trans q3
  have hselP : selectMethod e.platform s.vm cellB.cls mk = .method mk := by rw [Launch.admits_selectMethod X.admits]; exact q4
  obtain ⟨vm₁, X₁, hstep₁⟩ := X.invokevirtual hexec hown hlink hnamed hmethM hstM hkP hkPi hy (a := b) (cell := cellB) hcell
    (fun z h => by rw [h] at hobj; cases hobj) hselP hmethM habM hkP hkPi (g := g) hg (argsL := argsL) (rest := rest) (hlen _ hsigM) hstack hdg
  rcases hK m meth c ⟨T.setVm vm₁, locs, cells, slots⟩ { g with stack := rest } (.invokevirtual index) mk (Value.ref b :: argsL).toArray X₁ hg hsize hdg hW (X₁.named hnamed) (hpre vm₁ X₁.warmed) with ⟨v, B, X', hpost, hsteps⟩ | ⟨q, B, X', hpost, hsteps⟩
  · exact Or.inl ⟨v, vm₁, B, X₁.warmed, X', hpost, fun target h => hstep₁ _ fun acts => by rw [doInvoke_state]; exact hsteps.trans h⟩
  · exact Or.inr ⟨q, vm₁, B, X₁.warmed, X', hpost, hstep₁ _ fun acts => by rw [doInvoke_state]; exact hsteps⟩
theorem vx_callSX (X : Stand p l e R s m args below meth c T locs cells slots) (hexec : p.tables.exec = Jvm.exec) {own : String} {index : Nat} {y : MethodName} {bytes : ByteArray} {maxL : Nat} {ret : Option FieldType} {hh : List (Nat × Nat × Nat × Nat)}
    (hown : s.vm.findClass own = some m.cls) (hlink : (Cond.methodLink own index y).before args s = true) (hstat : (Cond.static y).before args s = true) (hinit : (Cond.initialized y.cls).before args s = true)
    (hcode : (Cond.codeWith y bytes maxL ret hh).before args s = true) (hy : y.cls ≠ "java/lang/invoke/MethodHandle" ∧ y.cls ≠ "java/lang/invoke/VarHandle")
    {W9 : Nat} {Pre : Pt → Array Value → Prop} {Post : Pt → Array Value → Option Value → Pt → Prop} {PostX : Pt → Array Value → Addr → Pt → Prop} (hK : vx_Back l R p e below s args y 3 W9 Pre Post PostX)
    {g : JFrame} (hg : g.method = m) (hsize : g.locals.size = c.maxLocals) {argsL rest : List Value} (hlen : ∀ sig, parseMethodDescriptor y.desc = some sig → argsL.length = sig.parameters.length)
    (hstack : g.stack = argsL.reverse ++ rest) (hW : 2 * g.monitorRoom + (rest.map fun v => v.category).sum ≤ W9) (hdg : decode c.code g.pc = .ok (.invokestatic index, 3))
    (hpre : ∀ vm₁, s.WarmedH vm₁ → Pre ⟨T.setVm vm₁, locs, cells, slots⟩ argsL.toArray) :
    (∃ (v : Option Value) (vm₁ : Vm) (B : Pt), s.WarmedH vm₁ ∧ Stand p l e R s m args below meth c B.U B.locs B.cells B.slots ∧ Post ⟨T.setVm vm₁, locs, cells, slots⟩ argsL.toArray v B ∧
      ∀ target, Steps p.tables e below (B.U.setTop { g with pc := g.pc + 3, stack := v.toList ++ rest }) target → Steps p.tables e below (T.setTop g) target) ∨
    (∃ (q : Addr) (vm₁ : Vm) (B : Pt), s.WarmedH vm₁ ∧ Stand p l e R s m args below meth c B.U B.locs B.cells B.slots ∧ PostX ⟨T.setVm vm₁, locs, cells, slots⟩ argsL.toArray q B ∧
      Steps p.tables e below (T.setTop g) ((B.U.setTop { g with stack := rest }).pushFrame (.throwing q))) := by
  obtain ⟨mk, methM, cM, hnamed, hmethM, -, -, -, -, -, -, hsigM⟩ := Cond.codeWith_spec hcode
  have hstatic : methM.isStatic = true := Cond.static_spec hnamed hmethM hstat
  obtain ⟨kP, hkP, -⟩ := className_of_methodNamed hnamed
  have hinitP : kP.init = .initialized := Cond.initialized_spec (findClass_of_methodNamed hnamed) hkP hinit
  obtain ⟨vm₁, X₁, hstep₁⟩ := X.invokestatic hexec hown hlink hnamed hmethM hstatic hkP hinitP hy (g := g) hg (argsL := argsL) (rest := rest) (hlen _ hsigM) hstack hdg
  rcases hK m meth c ⟨T.setVm vm₁, locs, cells, slots⟩ { g with stack := rest } (.invokestatic index) mk argsL.toArray X₁ hg hsize hdg hW (X₁.named hnamed) (hpre vm₁ X₁.warmed) with ⟨v, B, X', hpost, hsteps⟩ | ⟨q, B, X', hpost, hsteps⟩
  · exact Or.inl ⟨v, vm₁, B, X₁.warmed, X', hpost, fun target h => hstep₁ _ fun acts => by rw [doInvoke_state]; exact hsteps.trans h⟩
  · exact Or.inr ⟨q, vm₁, B, X₁.warmed, X', hpost, hstep₁ _ fun acts => by rw [doInvoke_state]; exact hsteps⟩
theorem vx_callVW (X : Stand p l e R s m args below meth c T locs cells slots) (hexec : p.tables.exec = Jvm.exec) {own C : String} {index : Nat} {y : MethodName} {bytes : ByteArray} {maxL : Nat} {ret : Option FieldType} {hh : List (Nat × Nat × Nat × Nat)}
    (hown : s.vm.findClass own = some m.cls) (hlink : (Cond.methodLink own index y).before args s = true) (hinst : (Cond.instanceMethod y).before args s = true) (hsel : (Cond.selects C y y).before args s = true)
    (hcode : (Cond.codeWith y bytes maxL ret hh).before args s = true) (hy : y.cls ≠ "java/lang/invoke/MethodHandle" ∧ y.cls ≠ "java/lang/invoke/VarHandle")
    {W9 : Nat} {Pre : Pt → Array Value → Prop} {Post : Pt → Array Value → Option Value → Pt → Prop} (hK : Back l R p e below s args y 3 W9 Pre Post)
    {b : Addr} {cellB : Cell} (hcell : T.heap[b]? = some cellB) (hobj : cellB.vm.isStatics = false) (hcls : s.vm.findClass C = some cellB.cls)
    {g : JFrame} (hg : g.method = m) (hsize : g.locals.size = c.maxLocals) {argsL rest : List Value} (hlen : ∀ sig, parseMethodDescriptor y.desc = some sig → argsL.length = sig.parameters.length)
    (hstack : g.stack = argsL.reverse ++ .ref b :: rest) (hW : 2 * g.monitorRoom + (rest.map fun v => v.category).sum ≤ W9) (hdg : decode c.code g.pc = .ok (.invokevirtual index, 3))
    (hpre : ∀ vm₁, s.WarmedH vm₁ → Pre ⟨T.setVm vm₁, locs, cells, slots⟩ (Value.ref b :: argsL).toArray) :
    ∃ (v : Option Value) (vm₁ : Vm) (B : Pt), s.WarmedH vm₁ ∧ Stand p l e R s m args below meth c B.U B.locs B.cells B.slots ∧ Post ⟨T.setVm vm₁, locs, cells, slots⟩ (Value.ref b :: argsL).toArray v B ∧
      ∀ target, Steps p.tables e below (B.U.setTop { g with pc := g.pc + 3, stack := v.toList ++ rest }) target → Steps p.tables e below (T.setTop g) target := by
  obtain ⟨mk, methM, hnamed, hmethM, hstM, habM⟩ := Cond.instanceMethod_spec hinst
  obtain ⟨m8, methM', cM, hn8, hmethM', -, -, -, -, -, -, hsigM⟩ := Cond.codeWith_spec hcode
  cases Option.some.inj (hn8.symm.trans hnamed)
  cases hmethM.symm.trans hmethM'
  obtain ⟨c2, r2, m2, q1, q2, q3, q4, kP, hkP, hkPi⟩ := Cond.selects_spec hsel
  cases hcls.symm.trans q1
  cases (State.methodFound?_of_named hnamed hy).symm.trans q2
  cases hnamed.symm.trans q3
  have hselP : selectMethod e.platform s.vm cellB.cls mk = .method mk := by rw [Launch.admits_selectMethod X.admits]; exact q4
  obtain ⟨vm₁, X₁, hstep₁⟩ := X.invokevirtual hexec hown hlink hnamed hmethM hstM hkP hkPi hy (a := b) (cell := cellB) hcell
    (fun z h => by rw [h] at hobj; cases hobj) hselP hmethM habM hkP hkPi (g := g) hg (argsL := argsL) (rest := rest) (hlen _ hsigM) hstack hdg
  obtain ⟨v, B, X', hpost, hsteps⟩ := hK m meth c ⟨T.setVm vm₁, locs, cells, slots⟩ { g with stack := rest } (.invokevirtual index) mk (Value.ref b :: argsL).toArray X₁ hg hsize hdg hW (X₁.named hnamed) (hpre vm₁ X₁.warmed)
  exact ⟨v, vm₁, B, X₁.warmed, X', hpost, fun target h => hstep₁ _ fun acts => by rw [doInvoke_state]; exact hsteps.trans h⟩
abbrev vx_CVW (R : Room) (s : State) (args : Array Value) (own C : String) (index : Nat) (y : MethodName) (bytes : ByteArray) (maxL : Nat) (ret : Option FieldType) (hh : List (Nat × Nat × Nat × Nat)) (ws : List Cond) (rm : Room) (mc ms n : Nat) : Prop :=
  (rm.cells = mc ∧ rm.slots = ms ∧ rm.frames + 1 ≤ R.frames ∧ 8 + (maxL + 11) + rm.locals ≤ R.locals ∧ (∀ w ∈ ws, ∀ (a' : Array Value) (U : State), s.WarmedH U.vm → w.before a' U = true) ∧ Cond.codeWith y bytes maxL ret hh ∈ ws) ∧
  (Cond.codeWith y bytes maxL ret hh).before args s = true ∧ (Cond.initialized y.cls).before args s = true ∧ (y.cls ≠ "java/lang/invoke/MethodHandle" ∧ y.cls ≠ "java/lang/invoke/VarHandle") ∧
  (∀ sig, parseMethodDescriptor y.desc = some sig → n = sig.parameters.length) ∧ (Cond.methodLink own index y).before args s = true ∧ (Cond.instanceMethod y).before args s = true ∧ (Cond.selects C y y).before args s = true
theorem vx_cwVW {own C : String} {index maxL mc ms : Nat} {y : MethodName} {bytes : ByteArray} {ret : Option FieldType} {hh : List (Nat × Nat × Nat × Nat)} {Ts ws ws' : List Cond} {rm : Room} (n : Nat) (ht : ∀ w ∈ Ts, w.before args s = true) (hT : GoodIn Ts (wsV own index C y ws)) (hw : ws = Cond.codeWith y bytes maxL ret hh :: ws') (hrc : rm.cells = mc) (hrs : rm.slots = ms)
    (hd : y.cls = C ∧ y.cls ≠ "java/lang/invoke/MethodHandle" ∧ y.cls ≠ "java/lang/invoke/VarHandle" ∧ (parseMethodDescriptor y.desc).map (fun d => d.parameters.length) = some n) (hR : rm.frames + 1 ≤ R.frames ∧ 8 + (maxL + 11) + rm.locals ≤ R.locals) :
    vx_CVW R s args own C index y bytes maxL ret hh ws rm mc ms n := by
  obtain ⟨hC, hd⟩ := hd
  subst hC
  have ok : ∀ w ∈ wsV own index y.cls y ws, w.before args s = true := fun w h => ht w (hT w h).1
  have hG : GoodIn Ts ws := fun w h => hT w (by unfold wsV; exact List.mem_append_right _ h)
  have hc : Cond.codeWith y bytes maxL ret hh ∈ ws := by rw [hw]; exact List.mem_cons_self
  refine ⟨⟨hrc, hrs, hR.1, hR.2, pay_in ht hG, hc⟩, ht _ (hG _ hc).1, ok _ (by simp [wsV]), ⟨hd.1, hd.2.1⟩, fun sig h => ?_, ok _ (by simp [wsV]), ok _ (by simp [wsV]), ok _ (by simp [wsV])⟩
  have h2 := hd.2.2
  rw [h] at h2
  exact (Option.some.inj h2).symm
theorem vx_runVW {y : MethodName} {bytes cc : ByteArray} {maxL nL mc ms n index : Nat} {ret : Option FieldType} {hh : List (Nat × Nat × Nat × Nat)} {ws : List Cond} {rm : Room} {Pc : Array Value → State → Prop} {Qc : Array Value → State → Outcome → State → Prop} {free : Addr → Prop} {Ts : List Cond} {own C : String} {b : Addr} {As rest : List Value} {g : JFrame}
    (S : CallFix p m c cc nL s args Ts own) (hM : Met l y ws rm Pc Qc mc ms free) (cw : vx_CVW R s args own C index y bytes maxL ret hh ws rm mc ms n) (hp : PreV s H C b Pc As)
    (hg : g.method = m) (hn : As.length = n) (hsize : g.locals.size = nL) (hstack : g.stack = As.reverse ++ .ref b :: rest) (hW : 2 * g.monitorRoom + (rest.map fun v => v.category).sum ≤ 8) (hdg : decode cc g.pc = .ok (.invokevirtual index, 3)) (hf : cells + mc ≤ R.cells ∧ slots + ms ≤ R.slots) :
    va_Run p l e R s m args below meth c H locs cells slots mc ms g rest (Qc (Value.ref b :: As).toArray) free := by
  obtain ⟨⟨hrc, hrs, hfr, hlo, hws, hcw⟩, hcode, hini, hy, hlen, hl, hin, hse⟩ := cw
  have hK : Back l R p e below s args y 3 8 (PreOf R mc ms Pc) (PostOf Qc mc ms free) := va_backW (hh := hh) (bytes := bytes) (maxL := maxL) (ret := ret) hM hp.1 hrc hrs hfr hlo hws hcw (fun a' U hW => word_at hW (Or.inl (by first | rfl | simp [Cond.onTables, Cond.keeps, Cond.steady])) hini)
  obtain ⟨hx, hb, hml, ho, -⟩ := S
  obtain ⟨-, ⟨cellB, hcB, hoB, hclB⟩, hPc⟩ := hp
  intro T hT X
  obtain ⟨v, vm₁, ⟨U', l2, c2, s2⟩, hW₁, X', ⟨g', mk, t, L, e1, e2, hq, h1, hL, h2, h3⟩, st⟩ := vx_callVW X hx (C := C) (hh := hh) (bytes := bytes) (maxL := maxL) (ret := ret) ho hl hin hse hcode hy hK (by rw [hT]; exact hcB) hoB hclB hg (hsize.trans hml.symm) (argsL := As) (rest := rest) (fun sig h => hn.trans (hlen sig h)) hstack hW (by rw [hb]; exact hdg)
    (fun vm₁ hW₁ => ⟨hf.1, hf.2, hPc (T.setVm vm₁) hT hW₁⟩)
  dsimp only [Pt.U, Pt.locs, Pt.cells, Pt.slots] at X' e1 e2 h1 h2 h3 st
  subst h1; subst h2; subst h3
  exact ⟨v, (T.setVm vm₁).calling g' mk (Value.ref b :: As).toArray, t, U', L, hT, X', hL, e1, e2, hq, st⟩
section
variable {y : MethodName} {bytes cc : ByteArray} {maxL nL mc ms n index : Nat} {ret : Option FieldType} {ws : List Cond} {rm : Room} {Pc : Array Value → State → Prop} {Qc : Array Value → State → Outcome → State → Prop} {XC : String → State → State → Prop} {free : Addr → Prop} {Ts : List Cond} {own C : String} {b : Addr} {As rest : List Value} {g : JFrame}
theorem vx_runVX {hh : List (Nat × Nat × Nat × Nat)} (S : CallFix p m c cc nL s args Ts own) (hM : vx_Met l y ws rm Pc Qc XC mc ms free) (cw : vx_CVW R s args own C index y bytes maxL ret hh ws rm mc ms n) (hp : PreV s H C b Pc As)
    (hg : g.method = m) (hn : As.length = n) (hsize : g.locals.size = nL) (hstack : g.stack = As.reverse ++ .ref b :: rest) (hW : 2 * g.monitorRoom + (rest.map fun v => v.category).sum ≤ 8) (hdg : decode cc g.pc = .ok (.invokevirtual index, 3)) (hf : cells + mc ≤ R.cells ∧ slots + ms ≤ R.slots) :
    vx_Run p l e R s m args below meth c H locs cells slots mc ms g rest (Qc (Value.ref b :: As).toArray) XC free := by
  obtain ⟨⟨hrc, hrs, hfr, hlo, hws, hcw⟩, hcode, hini, hy, hlen, hl, hin, hse⟩ := cw
  have hK : vx_Back l R p e below s args y 3 8 (PreOf R mc ms Pc) (PostOf Qc mc ms free) (vx_Post XC mc ms free) := vx_backW (hh := hh) (bytes := bytes) (maxL := maxL) (ret := ret) hM hp.1 hrc hrs hfr hlo hws hcw (fun a' U hW => word_at hW (Or.inl (by first | rfl | simp [Cond.onTables, Cond.keeps, Cond.steady])) hini)
  obtain ⟨hx, hb, hml, ho, -⟩ := S
  obtain ⟨-, ⟨cellB, hcB, hoB, hclB⟩, hPc⟩ := hp
  intro T hT X
  rcases vx_callVX X hx (C := C) (hh := hh) (bytes := bytes) (maxL := maxL) (ret := ret) ho hl hin hse hcode hy hK (by rw [hT]; exact hcB) hoB hclB hg (hsize.trans hml.symm) (argsL := As) (rest := rest) (fun sig h => hn.trans (hlen sig h)) hstack hW (by rw [hb]; exact hdg)
    (fun vm₁ hW₁ => ⟨hf.1, hf.2, hPc (T.setVm vm₁) hT hW₁⟩) with ⟨v, vm₁, ⟨U', l2, c2, s2⟩, hW₁, X', ⟨g', mk, t, L, e1, e2, hq, h1, hL, h2, h3⟩, st⟩ | ⟨q, vm₁, ⟨U', l2, c2, s2⟩, hW₁, X', ⟨g', mk, t, L, E, ce, e1, e2, hq, hce, hcv, hcl, h1, hL, h2, h3⟩, st⟩
  · dsimp only [Pt.U, Pt.locs, Pt.cells, Pt.slots] at X' e1 e2 h1 h2 h3 st
    subst h1; subst h2; subst h3
    exact Or.inl ⟨v, (T.setVm vm₁).calling g' mk (Value.ref b :: As).toArray, t, U', L, hT, X', hL, e1, e2, hq, st⟩
  · dsimp only [Pt.U, Pt.locs, Pt.cells, Pt.slots] at X' e1 e2 h1 h2 h3 st hcl
    subst h1; subst h2; subst h3
    exact Or.inr ⟨q, (T.setVm vm₁).calling g' mk (Value.ref b :: As).toArray, t, U', L, E, ce, hT, X', hL, e1, e2, hq, hce, hcv, vx_cls hW₁ hcl, st⟩
theorem vx_runSX {hh : List (Nat × Nat × Nat × Nat)} (S : CallFix p m c cc nL s args Ts own) (hM : vx_Met l y ws rm Pc Qc XC mc ms free) (cw : vx_CSW R s args own index y bytes maxL ret hh ws rm mc ms n) (hp : PreS s H Pc As)
    (hg : g.method = m) (hn : As.length = n) (hsize : g.locals.size = nL) (hstack : g.stack = As.reverse ++ rest) (hW : 2 * g.monitorRoom + (rest.map fun v => v.category).sum ≤ 8) (hdg : decode cc g.pc = .ok (.invokestatic index, 3)) (hf : cells + mc ≤ R.cells ∧ slots + ms ≤ R.slots) :
    vx_Run p l e R s m args below meth c H locs cells slots mc ms g rest (Qc As.toArray) XC free := by
  obtain ⟨⟨hrc, hrs, hfr, hlo, hws, hcw⟩, hcode, hini, hy, hlen, hl, hstt⟩ := cw
  have hK : vx_Back l R p e below s args y 3 8 (PreOf R mc ms Pc) (PostOf Qc mc ms free) (vx_Post XC mc ms free) := vx_backW (hh := hh) (bytes := bytes) (maxL := maxL) (ret := ret) hM hp.1 hrc hrs hfr hlo hws hcw (fun a' U hW => word_at hW (Or.inl (by first | rfl | simp [Cond.onTables, Cond.keeps, Cond.steady])) hini)
  obtain ⟨hx, hb, hml, ho, -⟩ := S
  intro T hT X
  rcases vx_callSX X hx (hh := hh) (bytes := bytes) (maxL := maxL) (ret := ret) ho hl hstt hini hcode hy hK hg (hsize.trans hml.symm) (argsL := As) (rest := rest) (fun sig h => hn.trans (hlen sig h)) hstack hW (by rw [hb]; exact hdg)
    (fun vm₁ hW₁ => ⟨hf.1, hf.2, hp.2 (T.setVm vm₁) hT hW₁⟩) with ⟨v, vm₁, ⟨U', l2, c2, s2⟩, hW₁, X', ⟨g', mk, t, L, e1, e2, hq, h1, hL, h2, h3⟩, st⟩ | ⟨q, vm₁, ⟨U', l2, c2, s2⟩, hW₁, X', ⟨g', mk, t, L, E, ce, e1, e2, hq, hce, hcv, hcl, h1, hL, h2, h3⟩, st⟩
  · dsimp only [Pt.U, Pt.locs, Pt.cells, Pt.slots] at X' e1 e2 h1 h2 h3 st
    subst h1; subst h2; subst h3
    exact Or.inl ⟨v, (T.setVm vm₁).calling g' mk As.toArray, t, U', L, hT, X', hL, e1, e2, hq, st⟩
  · dsimp only [Pt.U, Pt.locs, Pt.cells, Pt.slots] at X' e1 e2 h1 h2 h3 st hcl
    subst h1; subst h2; subst h3
    exact Or.inr ⟨q, (T.setVm vm₁).calling g' mk As.toArray, t, U', L, E, ce, hT, X', hL, e1, e2, hq, hce, hcv, vx_cls hW₁ hcl, st⟩
end
end VXH
theorem vx_ofWH {l : Launch} {y : MethodName} {ws ws' : List Cond} {rm : Room} {Pc : Array Value → State → Prop} {Qc : Array Value → State → Outcome → State → Prop} {XC : String → State → State → Prop} {mc ms : Nat} {free : Addr → Prop} {cc : ByteArray} {maxL : Nat} {ret : Option FieldType} {hh : List (Nat × Nat × Nat × Nat)}
    (hy : plainName y.cls = true) (hw : ws = Cond.codeWith y cc maxL ret hh :: ws')
    (body : ∀ p e s m args below meth c s₁, BodyLoose p l y (headSpec ws rm) cc maxL ret e s m args below meth c s₁ → c.maxLocals = maxL → Pc args s →
      W p l e (headSpec ws rm).room s m args below meth c s.heap [] 0 0 (vx_MQ below Qc XC args s mc ms free) (entryFrame m args maxL)) : vx_Met l y ws rm Pc Qc XC mc ms free := by
  refine MetFree.of_bodyS (code := cc) (maxLocals := maxL) (ret := ret) hy ?_ ?_
  · intro args s m h hn
    obtain ⟨m9, meth, c, hn9, h1, h2, h3, h4, -, h5, h6, -⟩ := Cond.codeWith_spec (atoms_spec (ws := ws) h _ (by rw [hw]; exact List.mem_cons_self))
    cases hn.symm.trans hn9
    exact ⟨meth, c, h1, h2, h3, h4, h5, h6⟩
  · intro p e s m args below meth c s₁ B hml hP _
    have hh0 : s₁.heap = s.heap := by rw [B.state]; rfl
    obtain ⟨t, a1, o, b1, b2, b3⟩ := body p e s m args below meth c s₁ B hml hP s₁ hh0 (Stand.of_body B)
    exact ⟨t, o, a1, b1, b2, b3⟩
/-! ===== END ===== -/

/-! ===== BEGIN what the machine throws by itself, no traces kept ===== -/
section VXM
set_option maxHeartbeats 1000000 in
/-- the machine throws cls with the message text, no traces kept: from its note over the frame g to 'throwing' over the same frame (follows the proofs of Stand.vmThrowsMessage, Shelf/KitTracedVmS.lean, and Stand.throwsMessageColdBareV, StandMessageColdV.lean, without the step out of the frame) -/
theorem vx_vmAt {p : Program} {l : Launch} {e : Env} {R : Room} {s : State} {m₀ : MethodId} {args : Array Value} {below : List Frame} {meth : Method} {c : Code} {W : State} {locs : List Loc} {cells slots : Nat}
    (X : Stand p l e R s m₀ args below meth c W locs cells slots) (hexec : p.tables.exec = Jvm.exec) (htr : e.platform.stackTraces = false) {cls : String} {names : List String} {text : String}
    (hcls : Bundle.fit cls = true) (hnames : ∀ n ∈ names, Bundle.fit n = true) (hsoe : (cls == "java/lang/StackOverflowError") = false) (hoom : (cls == "java/lang/OutOfMemoryError") = false)
    (h : ∀ a ∈ Bundle.messageArmAtoms cls names, a.before args s = true)
    (hlocs : ∀ x ∈ locs, ∀ cell, s.heap[x.base]? = some cell → cell.vm.isStatics = false)
    (htext : (text == notModelled) = false) (hlimit : ¬ (stringBytes (stringToUtf16 text)).size > e.platform.arrayLengthLimit) (hheap : ¬ (stringBytes (stringToUtf16 text)).size * componentBytes .byte > e.platform.maxHeapBytes)
    {g : JFrame} (hg : g.method = m₀) (hsize : g.locals.size = c.maxLocals)
    (hRframes : names.length + 4 < R.frames) (hRlocals : 2 * g.monitorRoom + (g.stack.map fun v => v.category).sum + 10240 ≤ R.locals) (hshort : 13 * names.length + 55 ≤ 10240)
    (hRcells : cells + 3 ≤ R.cells) (hRslots : slots + ((stringBytes (stringToUtf16 text)).size + 4 + 6) ≤ R.slots) (hlocks : meth.locks = false) :
    ∃ (S : State) (q : Addr) (ce : Cell), (∀ target, Steps p.tables e below ((S.setTop g).pushFrame (.throwing q)) target → Steps p.tables e below ((W.setTop g).pushFrame (.throwNew cls (some text) none)) target) ∧
      Stand p l e R s m₀ args below meth c S locs (cells + 3) (slots + ((stringBytes (stringToUtf16 text)).size + 4 + 6)) ∧ S.heap[q]? = some ce ∧ s.vm.findClass cls = some ce.cls ∧ ce.vm = .none := by
  have howns : e.platform.frameOwnsMonitors = true := by rw [X.admits.platform]
  have hfin : e.platform.finalization = false := by rw [X.admits.platform]
  have hpl : e.platform.magicAccessors = ({} : Platform).magicAccessors := by rw [X.admits.platform]
  have a : ∀ x, x ∈ Bundle.messageArmAtoms cls names → x.holds args s none s [] = true := fun x hx => h x hx
  obtain ⟨T, Z0, L, -, Y⟩ := ThrowableC.of_atoms (args := args) howns hfin hpl (fun x hx => h x (by simp [Bundle.messageArmAtoms, hx]))
  obtain ⟨Z, M, LZ, LM, hnZ⟩ := Init0T.ofS_atoms (args := args) hpl L Y (fun x hx => h x (by simp [Bundle.messageArmAtoms, hx]))
  obtain ⟨P1, Ps, hlen, L1, hL, hP1m, hlink1, hlink⟩ := Bundle.chainS (args := args) hpl hnZ names cls hcls hnames (fun x hx => h x (by simp [Bundle.messageArmAtoms, hx]))
  obtain ⟨Zs, LZs, hn4, hfitv, hfitc⟩ := StringT.of_atoms (args := args) (fun x hx => h x (by simp [Bundle.messageArmAtoms, hx]))
  have hfound : s.vm.findClass cls = some P1.m.cls := findClass_of_methodNamed hP1m
  obtain ⟨c1, kX, hc1, hk, hord, -, -, hn6⟩ := Cond.instantiable_spec (a (.instantiable cls 6) (by simp [Bundle.messageArmAtoms]))
  cases Option.some.inj (hc1.symm.trans hfound)
  have hinit := Cond.initialized_spec hfound hk (a (.initialized cls) (by simp [Bundle.messageArmAtoms]))
  have hctor : kX.findMethod "<init>" "(Ljava/lang/String;)V" = some P1.m.idx := findMethod_of_methodNamed hP1m hk
  have hsel0 : selectMethod e.platform s.vm P1.m.cls T.fill0 = .method T.fill0 := by
    obtain ⟨c2, r2, m2, q1, q2, q3, q4, -⟩ := Cond.selects_spec (a (.selects cls Bundle.tFill0 Bundle.tFill0) (by simp [Bundle.messageArmAtoms]))
    cases Option.some.inj (q1.symm.trans hfound)
    cases Option.some.inj (q2.symm.trans (State.methodFound?_of_named Y.fill0 (by decide)))
    cases Option.some.inj (q3.symm.trans Y.fill0)
    rw [Launch.admits_selectMethod X.admits]; exact q4
  have hselF : selectMethod e.platform s.vm P1.m.cls T.fill = .method T.fill := by
    obtain ⟨c2, r2, m2, q1, q2, q3, q4, -⟩ := Cond.selects_spec (a (.selects cls Bundle.tFill Bundle.tFill) (by simp [Bundle.messageArmAtoms]))
    cases Option.some.inj (q1.symm.trans hfound)
    cases Option.some.inj (q2.symm.trans (State.methodFound?_of_named Y.fill (by decide)))
    cases Option.some.inj (q3.symm.trans Y.fill)
    rw [Launch.admits_selectMethod X.admits]; exact q4
  obtain ⟨cellS0, hcS0, hiss⟩ := Y.statics
  obtain ⟨u0, hu0⟩ := Cond.staticRefV Y.unassigned L.unassignedStatic L.statics hcS0 hiss (a (.isRef (.static Bundle.tN "UNASSIGNED_STACK" Bundle.steD)) (by simp [Bundle.messageArmAtoms]))
  obtain ⟨sen, hsen⟩ := Cond.staticRefV Y.sentinel L.sentinelStatic L.statics hcS0 hiss (a (.isRef (.static Bundle.tN "SUPPRESSED_SENTINEL" Bundle.listD)) (by simp [Bundle.messageArmAtoms]))
  obtain ⟨ci198, i198, fB, hk198, hg198, ha198, hsB, -, hnB, htB, hffB⟩ := Cond.ownField (t := .object "java/lang/Object") Y.found L.cls (by decide +kernel) (a (.fieldLink Bundle.tN 198 Bundle.tN "backtrace" "Ljava/lang/Object;") (by simp [Bundle.messageArmAtoms])) (a (.lays Bundle.tN Bundle.tN "backtrace" "Ljava/lang/Object;") (by simp [Bundle.messageArmAtoms])) e.platform hpl
  obtain ⟨cellS, hcS', heS, -, hkeep⟩ := X.same.2.2.2.2.2 T.aS cellS0 hcS0
  have hcellS : W.heap[T.aS]? = some cellS := hcS'
  have hout' : ∀ i, (⟨T.aS, i⟩ : Loc) ∉ locs := fun i hmem => by
    have := hlocs _ hmem cellS0 hcS0
    rw [hiss] at this; cases this
  have hknownS : cellS.vm ≠ .unknown := by
    rw [heS]; intro hu
    rw [show cellS0.vm = .unknown from hu] at hiss
    cases hiss
  have hvU : cellS.slots[T.fUnassigned.slot]? = some u0.v := by rw [hkeep _ (hout' _)]; exact hu0
  have hvSen : cellS.slots[T.fSentinel.slot]? = some sen.v := by rw [hkeep _ (hout' _)]; exact hsen
  obtain ⟨iM, hffM⟩ := Y.msg
  obtain ⟨tyC, dC, hdC, hdnC⟩ := Cond.laysAt hfound hk Y.cause (a (.lays cls Bundle.tN "cause" "Ljava/lang/Throwable;") (by simp [Bundle.messageArmAtoms]))
  obtain ⟨tyS, dS, hdS, hdnS⟩ := Cond.laysAt hfound hk Y.stack (a (.lays cls Bundle.tN "stackTrace" Bundle.steD) (by simp [Bundle.messageArmAtoms]))
  obtain ⟨tyP, dP, hdP, hdnP⟩ := Cond.laysAt hfound hk Y.supp (a (.lays cls Bundle.tN "suppressedExceptions" Bundle.listD) (by simp [Bundle.messageArmAtoms]))
  obtain ⟨tyM, dM, hdM, hdnM⟩ := Cond.laysAt hfound hk hffM (a (.lays cls Bundle.tN "detailMessage" "Ljava/lang/String;") (by simp [Bundle.messageArmAtoms]))
  obtain ⟨tyB, dB, hdB, hdnB⟩ := Cond.laysAt hfound hk hffB (a (.lays cls Bundle.tN "backtrace" "Ljava/lang/Object;") (by simp [Bundle.messageArmAtoms]))
  have bC := Cond.laysApart hdB hdC hdnB hdnC (by rw [hnB, Y.causeName]; decide)
  have bS := Cond.laysApart hdB hdS hdnB hdnS (by rw [hnB, Y.stackName]; decide)
  have bP := Cond.laysApart hdB hdP hdnB hdnP (by rw [hnB, Y.suppName]; decide)
  have hbk : ((preparedCellV T.toThrowableT (freshCell P1.m.cls kX) (W.heap.size + 2) u0 sen).withEntry W.cur).slots[fB.slot]? = some .null := by
    have := fresh_default (c := P1.m.cls) tyB
    rw [htB] at this
    simpa [preparedCellV, Cell.setSlot, Cell.withEntry, Array.getElem?_setIfInBounds, bC, bS, bP, bC.symm, bS.symm, bP.symm, defaultValue] using this
  have tkC := Takes.of_laid (v := .ref (W.heap.size + 2)) hk hord tyC (by rw [Y.causeType]; rfl)
  have tkS := Takes.of_laid (v := u0.v) hk hord tyS (by rw [Y.stackType]; exact fits_refV_array _ u0)
  have tkP := Takes.of_laid (v := sen.v) hk hord tyP (by rw [Y.suppType]; exact fits_refV_object _ sen)
  have tkM := Takes.of_laid (v := .ref (W.heap.size + 1)) hk hord tyM (by rw [Y.msgType]; rfl)
  have hskip : SkipFacts T e.platform s (fun u => u) u0 ((preparedCellV T.toThrowableT (freshCell P1.m.cls kX) (W.heap.size + 2) u0 sen).withEntry W.cur) := ⟨{ ci198 := ci198, i198 := i198, fBack := fB }, ⟨hk198, hg198, ha198, hsB⟩, hbk, fun _ _ => rfl⟩
  have h0 : At W g.method c below := by rw [hg]; exact X.here
  obtain ⟨hbeyond, hfreeW⟩ := X.vmMayThrow hsize (.throwNew cls (some text) none) (fun f hf => by cases hf) rfl hRlocals
  have hfr' : W.frames.length + Ps.length + 4 < (e.platform.stackLimits W.me).1 := by have := X.framesAbove hRframes; omega
  have hwd' : (stackUse (.java g :: W.frames.tail)).2 + 13 * Ps.length + 55 ≤ (e.platform.stackLimits W.me).2 := by have := X.stackAbove hsize (K := 13 * Ps.length + 55) (by omega); omega
  have hslots : W.slotsUsed + (stringBytes (stringToUtf16 text)).size + Zs.kS.instanceTypes.size + kX.instanceTypes.size ≤ e.platform.maxSlots := by
    have := X.slotsAbove hRslots
    rw [hn4, hn6]
    omega
  obtain ⟨vm', hW', st⟩ := Steps.vmThrowsMessageColdByV p (s₀ := s) (S := W) (g := g) h0 hexec T L Z LZ M LM X.warmed (t := W.cur) rfl Zs LZs P1 L1 Ps hL hlink1 hlink hsoe hoom hfound hk hinit hord hctor
    (Launch.admits_hotImplicitExceptions X.admits) hbeyond hfreeW htext hlimit hheap (X.cellsAbove hRcells) hslots (hfitv _) (hfitc _)
    (Nn := fun u => u) heapOnly_id (fun _ _ => rfl) (fun _ => rfl) (fun u x y => setCell_twice _ _ _ _) (fun _ => Nat.le_refl _) (cN := ((preparedCellV T.toThrowableT (freshCell P1.m.cls kX) (W.heap.size + 2) u0 sen).withEntry W.cur))
    hsel0 hcellS hknownS hvU tkS (fun _ hu => hu) (fun _ hu => hu) rfl rfl rfl (by simp [preparedCellV, Cell.setSlot, Cell.withEntry]) hskip (fun _ _ hA hW _ hroom _ hrest => L.nativeOff p htr hA hW hroom hrest) hselF hvSen tkC tkP tkM Y.objLocals rfl hfr' hwd'
  rw [plainBareV_eq T.toThrowableT (W.heap.size + 2) u0 sen (.ref (W.heap.size + 1)) W.cur rfl rfl] at st
  obtain ⟨-, -, w3, w4, -, -, -⟩ := withThrown_facts e.platform W Zs text P1.m.cls kX
  have X3 := ((X.pushed (bytesOf Zs.cB (stringToUtf16 text))).pushed (stringAt Zs.cS Zs.kS Zs.fv Zs.fc (stringToUtf16 text) W.heap.size)).pushed (freshCell P1.m.cls kX)
  rw [← withString_eq] at X3
  have X4 := X3.noted hW'
  have ha : (W.heap.size + 2) < ((withThrown W Zs text P1.m.cls kX).setVm vm').heap.size := by show _ < (withThrown W Zs text P1.m.cls kX).heap.size; rw [w3]; omega
  have hcell : ((withThrown W Zs text P1.m.cls kX).setVm vm').heap[(W.heap.size + 2)]? = some (freshCell P1.m.cls kX) := w4
  have X5 := ((((X4.stored hcell T.fCause.slot (.ref (W.heap.size + 2))).storedAgain ha T.fStack.slot u0.v).storedAgain ha T.fSupp.slot sen.v).storedAgain ha T.fStack.slot u0.v).storedAgain ha T.fMsg.slot (.ref (W.heap.size + 1))
  obtain ⟨g₁, hfrM⟩ := X5.frames_eq
  have hU : ((((withThrown W Zs text P1.m.cls kX).setVm vm').setCell (W.heap.size + 2) (plainBareV T.toThrowableT (freshCell P1.m.cls kX) (W.heap.size + 2) u0 sen (.ref (W.heap.size + 1)))).setTop g).pushFrame (.throwing (W.heap.size + 2)) = (((withThrown W Zs text P1.m.cls kX).setVm vm').setCell (W.heap.size + 2) (plainBareV T.toThrowableT (freshCell P1.m.cls kX) (W.heap.size + 2) u0 sen (.ref (W.heap.size + 1)))).setFrames (.throwing (W.heap.size + 2) :: .java g :: below) := by
    rw [State.pushFrame, State.frames_setTop _ hfrM, State.setTop_of_frames _ hfrM, State.setFrames_setFrames]
  have b1 : (bytesOf Zs.cB (stringToUtf16 text)).slots.size = (stringBytes (stringToUtf16 text)).size := by
    rw [(Cell.writeAll_facts _ _).2.2]; simp [bytes0]
  have b2 : (stringAt Zs.cS Zs.kS Zs.fv Zs.fc (stringToUtf16 text) W.heap.size).slots.size = 4 := by simp [string0, Cell.setSlot, hn4]
  have b3 : (freshCell P1.m.cls kX).slots.size = 6 := by simp [hn6]
  rw [b1, b2, b3] at X5
  have e9 : slots + (stringBytes (stringToUtf16 text)).size + 4 + 6 = slots + ((stringBytes (stringToUtf16 text)).size + 4 + 6) := by omega
  rw [e9] at X5
  simp only [List.append_assoc, List.cons_append, List.nil_append] at X5
  refine ⟨((withThrown W Zs text P1.m.cls kX).setVm vm').setCell (W.heap.size + 2) (plainBareV T.toThrowableT (freshCell P1.m.cls kX) (W.heap.size + 2) u0 sen (.ref (W.heap.size + 1))), W.heap.size + 2, _, fun target ht => st _ (by rw [X.tail, ← hU]; exact ht),
    X5.forget (fun y hy => ?_), heapAt_setCell_self _ ha, hfound, rfl⟩
  simp only [List.mem_cons, List.not_mem_nil, or_false] at hy
  have hge : s.heap.size ≤ W.heap.size := X.same.2.1
  rcases hy with rfl | rfl | rfl | rfl | rfl <;> exact Nat.le_trans hge (Nat.le_add_right _ 2)
set_option maxHeartbeats 1000000 in
/-- the machine throws NullPointerException, no traces kept: from its note over the frame g to 'throwing' over the same frame (follows the proof of Stand.vmThrowsNpe, Shelf42/KT2.lean; throwsNpeColdBareVAt, Shelf42/NT91.lean, called) -/
theorem vx_npeAt {p : Program} {l : Launch} {e : Env} {R : Room} {s : State} {m₀ : MethodId} {args : Array Value} {below : List Frame} {meth : Method} {c : Code} {W : State} {locs : List Loc} {cells slots : Nat}
    (X : Stand p l e R s m₀ args below meth c W locs cells slots) (hexec : p.tables.exec = Jvm.exec) (htr : e.platform.stackTraces = false) {n : Nat}
    (h : ∀ a ∈ Bundle.npeArmAtoms n, a.before args s = true)
    (hlocs : ∀ x ∈ locs, ∀ cell, s.heap[x.base]? = some cell → cell.vm.isStatics = false)
    {g : JFrame} (hg : g.method = m₀) (hsize : g.locals.size = c.maxLocals)
    (hRframes : 7 < R.frames) (hRlocals : 2 * g.monitorRoom + (g.stack.map fun v => v.category).sum + 10240 ≤ R.locals)
    (hRcells : cells + 1 ≤ R.cells) (hRslots : slots + n ≤ R.slots) (hlocks : meth.locks = false) :
    ∃ (S : State) (q : Addr) (ce : Cell), (∀ target, Steps p.tables e below ((S.setTop g).pushFrame (.throwing q)) target → Steps p.tables e below ((W.setTop g).pushFrame (.throwNew "java/lang/NullPointerException" none none)) target) ∧
      Stand p l e R s m₀ args below meth c S locs (cells + 1) (slots + n) ∧ S.heap[q]? = some ce ∧ s.vm.findClass "java/lang/NullPointerException" = some ce.cls ∧ ce.vm = .none := by
  have howns : e.platform.frameOwnsMonitors = true := by rw [X.admits.platform]
  have hfin : e.platform.finalization = false := by rw [X.admits.platform]
  have hpl : e.platform.magicAccessors = ({} : Platform).magicAccessors := by rw [X.admits.platform]
  have hpl2 : e.platform.arrayCloneIsPublic = true := by rw [X.admits.platform]
  have a' : ∀ x, x ∈ Bundle.npeArmAtoms n → x.holds args s none s [] = true := fun x hx => h x hx
  obtain ⟨T, Z, L, LZ, Y⟩ := ThrowableC.of_atoms (args := args) howns hfin hpl (fun x hx => h x (by simp [Bundle.npeArmAtoms, hx]))
  obtain ⟨N, LN, hcN, hnNF, hordN, hffS⟩ := NpeC.of_atoms (args := args) hpl hpl2 L Y (fun x hx => h x (by simp [Bundle.npeArmAtoms, hx]))
  obtain ⟨P1, L1, hP1m, hP1s⟩ := PassC.of_atoms (args := args) (s := s) hpl (X := Bundle.nN) (Y := Bundle.rN) (by decide) (by decide) LibCode.NullPointerException.Init0.at_0 LibCode.NullPointerException.Init0.at_1 LibCode.NullPointerException.Init0.at_4 (fun x hx => h x (by simp [Bundle.npeArmAtoms, hx]))
  obtain ⟨PR, LR, hPRm, hPRs⟩ := PassC.of_atoms (args := args) (s := s) hpl (X := Bundle.rN) (Y := Bundle.eN) (by decide) (by decide) LibCode.RuntimeException.Init0.at_0 LibCode.RuntimeException.Init0.at_1 LibCode.RuntimeException.Init0.at_4 (fun x hx => h x (by simp [Bundle.npeArmAtoms, hx]))
  obtain ⟨PE, LEx, hPEm, hPEs⟩ := PassC.of_atoms (args := args) (s := s) hpl (X := Bundle.eN) (Y := Bundle.tN) (by decide) (by decide) LibCode.Exception.Init0.at_0 LibCode.Exception.Init0.at_1 LibCode.Exception.Init0.at_4 (fun x hx => h x (by simp [Bundle.npeArmAtoms, hx]))
  have hfound : s.vm.findClass Bundle.nN = some P1.m.cls := findClass_of_methodNamed hP1m
  have ecls : N.cN = P1.m.cls := Option.some.inj (hcN.symm.trans hfound)
  have hk : s.vm.classes[P1.m.cls]? = some N.kN := by rw [← ecls]; exact LN.cls
  have hinit := Cond.initialized_spec hfound hk (a' (.initialized Bundle.nN) (by simp [Bundle.npeArmAtoms]))
  have hctor : N.kN.findMethod "<init>" "()V" = some P1.m.idx := findMethod_of_methodNamed hP1m hk
  obtain ⟨c1, k1, hc1, hk1, -, -, -, hn⟩ := Cond.instantiable_spec (a' (.instantiable Bundle.nN n) (by simp [Bundle.npeArmAtoms]))
  cases Option.some.inj (hc1.symm.trans hfound)
  cases Option.some.inj (hk1.symm.trans hk)
  have hfsz : (freshCell P1.m.cls N.kN).slots.size = n := by simp [hn]
  have hlink1 : P1.sup = PR.m := Option.some.inj (hP1s.symm.trans hPRm)
  have hlinkR : PR.sup = PE.m := Option.some.inj (hPRs.symm.trans hPEm)
  have hlinkE : PE.sup = Z.m T.toThrowableT := Option.some.inj (hPEs.symm.trans Y.init0)
  have hLs : ∀ P, P ∈ [PR, PE] → P.Links0 e.platform s := fun P hP => by
    simp only [List.mem_cons, List.not_mem_nil, or_false] at hP
    rcases hP with rfl | rfl
    · exact LR
    · exact LEx
  have hsel0 : selectMethod e.platform s.vm P1.m.cls T.fill0 = .method T.fill0 := by
    obtain ⟨c2, r2, m2, q1, q2, q3, q4, -⟩ := Cond.selects_spec (a' (.selects Bundle.nN Bundle.tFill0 Bundle.tFill0) (by simp [Bundle.npeArmAtoms]))
    cases Option.some.inj (q1.symm.trans hfound)
    cases Option.some.inj (q2.symm.trans (State.methodFound?_of_named Y.fill0 (by decide)))
    cases Option.some.inj (q3.symm.trans Y.fill0)
    rw [Launch.admits_selectMethod X.admits]; exact q4
  have hselF : selectMethod e.platform s.vm P1.m.cls T.fill = .method N.fill := by
    obtain ⟨c2, r2, m2, q1, q2, q3, q4, -⟩ := Cond.selects_spec (a' (.selects Bundle.nN Bundle.tFill Bundle.nFill) (by simp [Bundle.npeArmAtoms]))
    cases Option.some.inj (q1.symm.trans hfound)
    cases Option.some.inj (q2.symm.trans (State.methodFound?_of_named Y.fill (by decide)))
    cases Option.some.inj (q3.symm.trans hnNF)
    rw [Launch.admits_selectMethod X.admits]; exact q4
  obtain ⟨cellS0, hcS0, hiss⟩ := Y.statics
  obtain ⟨u0, hu0⟩ := Cond.staticRefV Y.unassigned L.unassignedStatic L.statics hcS0 hiss (a' (.isRef (.static Bundle.tN "UNASSIGNED_STACK" Bundle.steD)) (by simp [Bundle.npeArmAtoms]))
  obtain ⟨sen, hsen⟩ := Cond.staticRefV Y.sentinel L.sentinelStatic L.statics hcS0 hiss (a' (.isRef (.static Bundle.tN "SUPPRESSED_SENTINEL" Bundle.listD)) (by simp [Bundle.npeArmAtoms]))
  obtain ⟨ci198, i198, fB, hk198, hg198, ha198, hsB, -, hnB, htB, hffB⟩ := Cond.ownField (t := .object "java/lang/Object") Y.found L.cls (by decide +kernel) (a' (.fieldLink Bundle.tN 198 Bundle.tN "backtrace" Bundle.objD) (by simp [Bundle.npeArmAtoms])) (a' (.lays Bundle.tN Bundle.tN "backtrace" Bundle.objD) (by simp [Bundle.npeArmAtoms])) e.platform hpl
  obtain ⟨cellS, hcS', heS, -, hkeep⟩ := X.same.2.2.2.2.2 T.aS cellS0 hcS0
  have hcellS : W.heap[T.aS]? = some cellS := hcS'
  have hout' : ∀ i, (⟨T.aS, i⟩ : Loc) ∉ locs := fun i hmem => by
    have := hlocs _ hmem cellS0 hcS0
    rw [hiss] at this; cases this
  have hknownS : cellS.vm ≠ .unknown := by
    rw [heS]; intro hu
    rw [show cellS0.vm = .unknown from hu] at hiss
    cases hiss
  have hvU : cellS.slots[T.fUnassigned.slot]? = some u0.v := by rw [hkeep _ (hout' _)]; exact hu0
  have hvSen : cellS.slots[T.fSentinel.slot]? = some sen.v := by rw [hkeep _ (hout' _)]; exact hsen
  obtain ⟨tyC, dC, hdC, hdnC⟩ := Cond.laysAt hfound hk Y.cause (a' (.lays Bundle.nN Bundle.tN "cause" "Ljava/lang/Throwable;") (by simp [Bundle.npeArmAtoms]))
  obtain ⟨tyS, dS, hdS, hdnS⟩ := Cond.laysAt hfound hk Y.stack (a' (.lays Bundle.nN Bundle.tN "stackTrace" Bundle.steD) (by simp [Bundle.npeArmAtoms]))
  obtain ⟨tyP, dP, hdP, hdnP⟩ := Cond.laysAt hfound hk Y.supp (a' (.lays Bundle.nN Bundle.tN "suppressedExceptions" Bundle.listD) (by simp [Bundle.npeArmAtoms]))
  obtain ⟨tyX, dX, hdX, hdnX⟩ := Cond.laysAt hfound hk hffS (a' (.lays Bundle.nN Bundle.nN "extendedMessageState" "I") (by simp [Bundle.npeArmAtoms, Bundle.npeAtoms]))
  obtain ⟨hnX, htX⟩ := State.fieldFound?_type hffS (t := .int) (by decide +kernel)
  have xC := Cond.laysApart hdC hdX hdnC hdnX (by rw [hnX, Y.causeName]; decide)
  have xS := Cond.laysApart hdS hdX hdnS hdnX (by rw [hnX, Y.stackName]; decide)
  have xP := Cond.laysApart hdP hdX hdnP hdnX (by rw [hnX, Y.suppName]; decide)
  have hv0 : (freshCell P1.m.cls N.kN).slots[N.fState.slot]? = some (.int 0) := by
    have := fresh_default (c := P1.m.cls) tyX
    rw [htX] at this; exact this
  obtain ⟨tyB, dB, hdB, hdnB⟩ := Cond.laysAt hfound hk hffB (a' (.lays Bundle.nN Bundle.tN "backtrace" Bundle.objD) (by simp [Bundle.npeArmAtoms]))
  have bC := Cond.laysApart hdB hdC hdnB hdnC (by rw [hnB, Y.causeName]; decide)
  have bS := Cond.laysApart hdB hdS hdnB hdnS (by rw [hnB, Y.stackName]; decide)
  have bP := Cond.laysApart hdB hdP hdnB hdnP (by rw [hnB, Y.suppName]; decide)
  have bX := Cond.laysApart hdB hdX hdnB hdnX (by rw [hnB, hnX]; decide)
  have hbk : ((npeCell N.toNpeT (preparedCellV T.toThrowableT (freshCell P1.m.cls N.kN) W.heap.size u0 sen) W.cur).withEntry W.cur).slots[fB.slot]? = some .null := by
    have := fresh_default (c := P1.m.cls) tyB
    rw [htB] at this
    simpa [npeCell, preparedCellV, Cell.setSlot, Cell.withEntry, Array.getElem?_setIfInBounds, bC, bS, bP, bX, bC.symm, bS.symm, bP.symm, bX.symm, defaultValue] using this
  have tkC := Takes.of_laid (v := .ref W.heap.size) hk hordN tyC (by rw [Y.causeType]; rfl)
  have tkS := Takes.of_laid (v := u0.v) hk hordN tyS (by rw [Y.stackType]; exact fits_refV_array _ u0)
  have tkP := Takes.of_laid (v := sen.v) hk hordN tyP (by rw [Y.suppType]; exact fits_refV_object _ sen)
  have tkX := Takes.of_laid (v := .int 1) hk hordN tyX (by rw [htX]; rfl)
  have hskip : SkipFacts T e.platform s (fun u => u) u0 ((npeCell N.toNpeT (preparedCellV T.toThrowableT (freshCell P1.m.cls N.kN) W.heap.size u0 sen) W.cur).withEntry W.cur) := ⟨{ ci198 := ci198, i198 := i198, fBack := fB }, ⟨hk198, hg198, ha198, hsB⟩, hbk, fun _ _ => rfl⟩
  obtain ⟨vm', X3, st, -⟩ := X.throwsNpeColdBareVAt hexec hg hsize T L Z LZ N LN P1 L1 [PR, PE] hLs hlink1 ⟨hlinkR, hlinkE, trivial⟩ hfound hk hinit hordN hctor hsel0 hselF hcellS hknownS hvU hvSen
    hv0 xC xS xP tkC tkS tkP tkX Y.objLocals hskip (fun _ _ hA hW _ hroom _ hrest => L.nativeOff p htr hA hW hroom hrest) (by simpa using hRframes) hRlocals (by simp) hRcells (by rw [hn]; exact hRslots)
  have hlt : W.heap.size < ((W.pushCell (freshCell P1.m.cls N.kN)).setVm vm').heap.size := by
    show W.heap.size < (W.pushCell (freshCell P1.m.cls N.kN)).heap.size
    rw [State.heap_size_pushCell]; omega
  rw [hfsz] at X3
  obtain ⟨g₁, hfrM⟩ := X3.frames_eq
  have hU : ((((W.pushCell (freshCell P1.m.cls N.kN)).setVm vm').setCell W.heap.size (npeBareV T.toThrowableT N.toNpeT (freshCell P1.m.cls N.kN) W.heap.size u0 sen)).setTop g).pushFrame (.throwing W.heap.size) = (((W.pushCell (freshCell P1.m.cls N.kN)).setVm vm').setCell W.heap.size (npeBareV T.toThrowableT N.toNpeT (freshCell P1.m.cls N.kN) W.heap.size u0 sen)).setFrames (.throwing W.heap.size :: .java g :: below) := by
    rw [State.pushFrame, State.frames_setTop _ hfrM, State.setTop_of_frames _ hfrM, State.setFrames_setFrames]
  refine ⟨_, W.heap.size, _, fun target ht => st.trans (by rw [← hU]; exact ht), X3.forget (fun y hy => ?_), heapAt_setCell_self _ hlt, hfound, rfl⟩
  simp only [List.mem_cons, List.not_mem_nil, or_false] at hy
  have hge : s.heap.size ≤ W.heap.size := X.same.2.1
  rcases hy with rfl | rfl | rfl | rfl | rfl <;> exact hge
/-- the words of a machine's NullPointerException, but the four that speak of the heap -/
def vx_atN (n : Nat) : List Cond := (Bundle.npeArmAtoms n).filter vx_no
/-- the words of a machine's throw with a message, but the four that speak of the heap -/
def vx_atM (X : String) (names : List String) : List Cond := (Bundle.messageArmAtoms X names).filter vx_no
section
variable {p : Program} {l : Launch} {e : Env} {R : Room} {s : State} {m : MethodId} {args : Array Value} {below : List Frame} {meth : Method} {c : Code} {H : Heap} {locs : List Loc} {cells slots : Nat}
/-- a frame seen from a rebased start, seen from the first start again -/
theorem vx_back9 {T S : State} {R' : Room} {k n : Nat} (X : Stand p l e R s m args below meth c T locs cells slots) (Y : Stand p l e R' ((T.setVm s.vm).setFrames (.invoking m args :: below)) m args below meth c T [] 0 0) (Z : Stand p l e R' ((T.setVm s.vm).setFrames (.invoking m args :: below)) m args below meth c S [] k n) :
    Stand p l e R s m args below meth c S locs (cells + k) (slots + n) := by
  have hW0 : s.WarmedH ((T.setVm s.vm).setFrames (.invoking m args :: below)).vm := State.WarmedH.refl s
  refine { admits := X.admits, cas := X.cas, clock := X.clock, frames := X.frames, room := X.room, hears := X.hears, method := X.method, code := X.code, here := Z.here, tail := Z.tail, warmed := State.WarmedH.trans hW0 Z.warmed, limits := Z.limits.trans (Y.limits.symm.trans X.limits), bytes := Z.bytes.trans (Y.bytes.symm.trans X.bytes), same := ?_ }
  obtain ⟨e1, e2⟩ := Z.same
  rw [State.setFrames_setFrames] at e1
  have h2 : (T.setVm s.vm).sameButNew (S.setVm s.vm) [] k n := ⟨e1, e2⟩
  have h3 := X.same.trans h2
  rw [List.append_nil] at h3
  exact h3
/-- from the machine's note that E is thrown here with this text -/
def vx_Note (p : Program) (l : Launch) (e : Env) (R : Room) (s : State) (m : MethodId) (args : Array Value) (below : List Frame) (meth : Method) (c : Code) (H : Heap) (locs : List Loc) (cells slots : Nat) (Q : State → Prop) (g : JFrame) (E text : String) : Prop :=
  ∀ T : State, T.heap = H → Stand p l e R s m args below meth c T locs cells slots → ∃ t, Steps p.tables e below ((T.setTop g).pushFrame (.throwNew E (some text) none)) t ∧ Q t
theorem vx_vm {pc : Nat} {ls : Array Slot} {rest : List Value} {Q : State → Prop} (hexec : p.tables.exec = Jvm.exec) (hl : l.stackTraces = false) {cls text : String} {names : List String} {nb : Nat} {A : Nat → Prop}
    (hcls : Bundle.fit cls = true) (hnames : ∀ n ∈ names, Bundle.fit n = true) (hsoe : (cls == "java/lang/StackOverflowError") = false) (hoom : (cls == "java/lang/OutOfMemoryError") = false)
    (hat : ∀ w ∈ vx_atM cls names, w.before args s = true) (hgood : ∀ w ∈ vx_atM cls names, vx_ot w = true)
    (hU : vx_Zq Bundle.tN "UNASSIGNED_STACK" Bundle.steD A s s.heap) (hN : vx_Zq Bundle.tN "SUPPRESSED_SENTINEL" Bundle.listD A s s.heap) (hS : va_S A s.heap H locs) (hsize : ls.size = c.maxLocals)
    (htext : (text == notModelled) = false) (hnb : (stringBytes (stringToUtf16 text)).size ≤ nb) (hnb1 : nb ≤ 1000)
    (hRframes : names.length + 4 < R.frames) (hRlocals : (rest.map fun v => v.category).sum + 10240 ≤ R.locals) (hshort : 13 * names.length + 55 ≤ 10240) (hRcells : cells + 3 ≤ R.cells) (hRslots : slots + (nb + 10) ≤ R.slots) (hlocks : meth.locks = false)
    (k : ∀ (H1 : Heap) (q9 : Addr) (ce : Cell), H.size ≤ H1.size → (∀ q : Nat, q < H.size → H1[q]? = H[q]?) → va_S A s.heap H1 locs → H1[q9]? = some ce → ce.vm = .none → s.vm.findClass cls = some ce.cls → vx_W p l e R s m args below meth c H1 locs (cells + 3) (slots + (nb + 10)) Q (F0 m pc ls rest) q9) :
    vx_Note p l e R s m args below meth c H locs cells slots Q (F0 m pc ls rest) cls text := by
  intro T hT X
  have htr : e.platform.stackTraces = false := (show e.platform.stackTraces = l.stackTraces by rw [X.admits.platform]).trans hl
  have Y := vx_rebase X (R' := { frames := R.frames, locals := R.locals, cells := 3, slots := nb + 10 }) (Nat.le_refl _) (Nat.le_refl _) hRcells hRslots
  have hhp : ((T.setVm s.vm).setFrames (.invoking m args :: below)).heap = H := hT
  have hW0 : s.WarmedH ((T.setVm s.vm).setFrames (.invoking m args :: below)).vm := State.WarmedH.refl s
  have hat' : ∀ w ∈ vx_atM cls names, w.before args ((T.setVm s.vm).setFrames (.invoking m args :: below)) = true := fun w hw => vx_ot_at hW0 rfl (hgood w hw) (hat w hw)
  have hU' : vx_Zq Bundle.tN "UNASSIGNED_STACK" Bundle.steD A ((T.setVm s.vm).setFrames (.invoking m args :: below)) ((T.setVm s.vm).setFrames (.invoking m args :: below)).heap := by rw [hhp]; exact vx_Zq.moved hW0.alike (hU.kept hS.2.1)
  have hN' : vx_Zq Bundle.tN "SUPPRESSED_SENTINEL" Bundle.listD A ((T.setVm s.vm).setFrames (.invoking m args :: below)) ((T.setVm s.vm).setFrames (.invoking m args :: below)).heap := by rw [hhp]; exact vx_Zq.moved hW0.alike (hN.kept hS.2.1)
  obtain ⟨S, q, ce, st, Z, hce, hcl', hv⟩ := vx_vmAt Y hexec htr (cls := cls) (names := names) (text := text) hcls hnames hsoe hoom (vx_own hat' (vx_isRefq hU'.1) (vx_isRefq hN'.1) hU'.2.word hN'.2.word) (fun x hx => nomatch hx) htext
    (by rw [Launch.admits_arrayLengthLimit X.admits]; omega) (by rw [Launch.admits_maxHeapBytes X.admits]; simp only [componentBytes]; omega)
    (g := F0 m pc ls rest) rfl hsize hRframes (by show 2 * 0 + (rest.map fun v => v.category).sum + 10240 ≤ R.locals; omega) hshort (by show 0 + 3 ≤ 3; omega) (by show 0 + (_ + 4 + 6) ≤ nb + 10; omega) hlocks
  obtain ⟨f1, f2⟩ := vx_frame Z.same
  have f1' : H.size ≤ S.heap.size := by rw [← hT]; exact f1
  have f2' : ∀ q : Nat, q < H.size → S.heap[q]? = H[q]? := fun q hq => by
    rw [← hT]
    exact f2 q (by rw [← hT] at hq; exact hq) (fun z hz => nomatch hz)
  have X5 := vx_back9 X Y Z
  have X6 : Stand p l e R s m args below meth c S locs (cells + 3) (slots + (nb + 10)) := { X5 with same := X5.same.mono (by omega) (by omega) }
  obtain ⟨t, a1, b1⟩ := k S.heap q ce f1' f2' ⟨Nat.le_trans hS.1 f1', fun q h1 h2 => (f2' q (Nat.lt_of_lt_of_le h1 hS.1)).trans (hS.2.1 q h1 h2), hS.2.2⟩ hce hv hcl' S rfl X6
  exact ⟨t, st t a1, b1⟩
/-- from the machine's note that NullPointerException is thrown here -/
def vx_NoteN (p : Program) (l : Launch) (e : Env) (R : Room) (s : State) (m : MethodId) (args : Array Value) (below : List Frame) (meth : Method) (c : Code) (H : Heap) (locs : List Loc) (cells slots : Nat) (Q : State → Prop) (g : JFrame) : Prop :=
  ∀ T : State, T.heap = H → Stand p l e R s m args below meth c T locs cells slots → ∃ t, Steps p.tables e below ((T.setTop g).pushFrame (.throwNew "java/lang/NullPointerException" none none)) t ∧ Q t
theorem vx_npe {pc : Nat} {ls : Array Slot} {rest : List Value} {Q : State → Prop} (hexec : p.tables.exec = Jvm.exec) (hl : l.stackTraces = false) {nb : Nat} {A : Nat → Prop}
    (hat : ∀ w ∈ vx_atN nb, w.before args s = true) (hgood : ∀ w ∈ vx_atN nb, vx_ot w = true)
    (hU : vx_Zq Bundle.tN "UNASSIGNED_STACK" Bundle.steD A s s.heap) (hN : vx_Zq Bundle.tN "SUPPRESSED_SENTINEL" Bundle.listD A s s.heap) (hS : va_S A s.heap H locs) (hsize : ls.size = c.maxLocals)
    (hRframes : 7 < R.frames) (hRlocals : (rest.map fun v => v.category).sum + 10240 ≤ R.locals) (hRcells : cells + 1 ≤ R.cells) (hRslots : slots + nb ≤ R.slots) (hlocks : meth.locks = false)
    (k : ∀ (H1 : Heap) (q9 : Addr) (ce : Cell), H.size ≤ H1.size → (∀ q : Nat, q < H.size → H1[q]? = H[q]?) → va_S A s.heap H1 locs → H1[q9]? = some ce → ce.vm = .none → s.vm.findClass "java/lang/NullPointerException" = some ce.cls → vx_W p l e R s m args below meth c H1 locs (cells + 1) (slots + nb) Q (F0 m pc ls rest) q9) :
    vx_NoteN p l e R s m args below meth c H locs cells slots Q (F0 m pc ls rest) := by
  intro T hT X
  have htr : e.platform.stackTraces = false := (show e.platform.stackTraces = l.stackTraces by rw [X.admits.platform]).trans hl
  have Y := vx_rebase X (R' := { frames := R.frames, locals := R.locals, cells := 1, slots := nb }) (Nat.le_refl _) (Nat.le_refl _) hRcells hRslots
  have hhp : ((T.setVm s.vm).setFrames (.invoking m args :: below)).heap = H := hT
  have hW0 : s.WarmedH ((T.setVm s.vm).setFrames (.invoking m args :: below)).vm := State.WarmedH.refl s
  have hat' : ∀ w ∈ vx_atN nb, w.before args ((T.setVm s.vm).setFrames (.invoking m args :: below)) = true := fun w hw => vx_ot_at hW0 rfl (hgood w hw) (hat w hw)
  have hU' : vx_Zq Bundle.tN "UNASSIGNED_STACK" Bundle.steD A ((T.setVm s.vm).setFrames (.invoking m args :: below)) ((T.setVm s.vm).setFrames (.invoking m args :: below)).heap := by rw [hhp]; exact vx_Zq.moved hW0.alike (hU.kept hS.2.1)
  have hN' : vx_Zq Bundle.tN "SUPPRESSED_SENTINEL" Bundle.listD A ((T.setVm s.vm).setFrames (.invoking m args :: below)) ((T.setVm s.vm).setFrames (.invoking m args :: below)).heap := by rw [hhp]; exact vx_Zq.moved hW0.alike (hN.kept hS.2.1)
  obtain ⟨S, q, ce, st, Z, hce, hcl', hv⟩ := vx_npeAt Y hexec htr (n := nb) (vx_own hat' (vx_isRefq hU'.1) (vx_isRefq hN'.1) hU'.2.word hN'.2.word) (fun x hx => nomatch hx)
    (g := F0 m pc ls rest) rfl hsize hRframes (by show 2 * 0 + (rest.map fun v => v.category).sum + 10240 ≤ R.locals; omega) (by show 0 + 1 ≤ 1; omega) (by show 0 + nb ≤ nb; omega) hlocks
  obtain ⟨f1, f2⟩ := vx_frame Z.same
  have f1' : H.size ≤ S.heap.size := by rw [← hT]; exact f1
  have f2' : ∀ q : Nat, q < H.size → S.heap[q]? = H[q]? := fun q hq => by
    rw [← hT]
    exact f2 q (by rw [← hT] at hq; exact hq) (fun z hz => nomatch hz)
  have X5 := vx_back9 X Y Z
  have X6 : Stand p l e R s m args below meth c S locs (cells + 1) (slots + nb) := { X5 with same := X5.same.mono (by omega) (by omega) }
  obtain ⟨t, a1, b1⟩ := k S.heap q ce f1' f2' ⟨Nat.le_trans hS.1 f1', fun q h1 h2 => (f2' q (Nat.lt_of_lt_of_le h1 hS.1)).trans (hS.2.1 q h1 h2), hS.2.2⟩ hce hv hcl' S rfl X6
  exact ⟨t, st t a1, b1⟩
variable {Q : State → Prop} {cc : ByteArray} {pc : Nat} {ls : Array Slot} {rest : List Value}
theorem vx_idivZ (hexec : p.tables.exec = Jvm.exec) (hb : c.code = cc) {a b : Int32} (h0 : b = 0) (d : decode cc pc = .ok (.idiv, 1)) (k : vx_Note p l e R s m args below meth c H locs cells slots Q (F0 m pc ls rest) "java/lang/ArithmeticException" "/ by zero") :
    W p l e R s m args below meth c H locs cells slots Q (F0 m pc ls (.int b :: .int a :: rest)) := by
  intro T hT X
  obtain ⟨t, st, q⟩ := k T hT X
  exact ⟨t, X.idivZero hexec (g := F0 m pc ls (.int b :: .int a :: rest)) rfl (a := a) (rest := rest) (by rw [h0]) (by rw [hb]; exact d) t st, q⟩
theorem vx_iremZ (hexec : p.tables.exec = Jvm.exec) (hb : c.code = cc) {a b : Int32} (h0 : b = 0) (d : decode cc pc = .ok (.irem, 1)) (k : vx_Note p l e R s m args below meth c H locs cells slots Q (F0 m pc ls rest) "java/lang/ArithmeticException" "/ by zero") :
    W p l e R s m args below meth c H locs cells slots Q (F0 m pc ls (.int b :: .int a :: rest)) := by
  intro T hT X
  obtain ⟨t, st, q⟩ := k T hT X
  exact ⟨t, X.iremZero hexec (g := F0 m pc ls (.int b :: .int a :: rest)) rfl (a := a) (rest := rest) (by rw [h0]) (by rw [hb]; exact d) t st, q⟩
theorem vx_ldivZ (hexec : p.tables.exec = Jvm.exec) (hb : c.code = cc) {a b : Int64} (h0 : b = 0) (d : decode cc pc = .ok (.ldiv, 1)) (k : vx_Note p l e R s m args below meth c H locs cells slots Q (F0 m pc ls rest) "java/lang/ArithmeticException" "/ by zero") :
    W p l e R s m args below meth c H locs cells slots Q (F0 m pc ls (.long b :: .long a :: rest)) := by
  intro T hT X
  obtain ⟨t, st, q⟩ := k T hT X
  exact ⟨t, X.ldivZero hexec (g := F0 m pc ls (.long b :: .long a :: rest)) rfl (a := a) (rest := rest) (by rw [h0]) (by rw [hb]; exact d) t st, q⟩
theorem vx_lremZ (hexec : p.tables.exec = Jvm.exec) (hb : c.code = cc) {a b : Int64} (h0 : b = 0) (d : decode cc pc = .ok (.lrem, 1)) (k : vx_Note p l e R s m args below meth c H locs cells slots Q (F0 m pc ls rest) "java/lang/ArithmeticException" "/ by zero") :
    W p l e R s m args below meth c H locs cells slots Q (F0 m pc ls (.long b :: .long a :: rest)) := by
  intro T hT X
  obtain ⟨t, st, q⟩ := k T hT X
  exact ⟨t, X.lremZero hexec (g := F0 m pc ls (.long b :: .long a :: rest)) rfl (a := a) (rest := rest) (by rw [h0]) (by rw [hb]; exact d) t st, q⟩
theorem vx_ialdZ {D : va_G} {cl : List vw_C} {ws : va_W} {tys : List (ClassId × FieldType)} {a : Nat} (hexec : p.tables.exec = Jvm.exec) (hb : c.code = cc) (hK : va_K D cl tys s) (hP : va_P D cl ws H) (q0 t0 : Nat) {cA : ClassId} {n : Nat} {f : Nat → Int32} (ha : ws[q0]? = some (a, .inl (cA, n, .inl f))) (ht : tys[t0]? = some (cA, .int)) {i : Int32} (hout : ¬ vp_in i n) (hdg : decode cc pc = .ok (.iaload, 1))
    (k : ∀ tx : String, tx = (toString "Index " ++ toString i ++ toString " out of bounds for length " ++ toString n : String) → vx_Note p l e R s m args below meth c H locs cells slots Q (F0 m pc ls rest) "java/lang/ArrayIndexOutOfBoundsException" tx) : W p l e R s m args below meth c H locs cells slots Q (F0 m pc ls (.int i :: .ref a :: rest)) := by
  intro T hT X
  obtain ⟨t, st, q⟩ := k _ rfl T hT X
  refine ⟨t, ?_, q⟩
  have h1 := X.ialoadOut hexec (by rw [hT]; exact hP q0 _ ha) ((hK.2 t0 _ ht).1 n (fun j => .int (f j))) (j := i) (by show (i < 0 ∨ (arrV _ _ _).slots.size ≤ _); rw [arrV_size]; exact Classical.byContradiction hout) (g := F0 m pc ls (.int i :: .ref a :: rest)) rfl (rest := rest) rfl (by rw [hb]; exact hdg) t
  simp only [arrV_size] at h1
  exact h1 st
theorem vx_iastZ {D : va_G} {cl : List vw_C} {ws : va_W} {tys : List (ClassId × FieldType)} {a : Nat} (hexec : p.tables.exec = Jvm.exec) (hb : c.code = cc) (hK : va_K D cl tys s) (hP : va_P D cl ws H) (q0 t0 : Nat) {cA : ClassId} {n : Nat} {f : Nat → Int32} (ha : ws[q0]? = some (a, .inl (cA, n, .inl f))) (ht : tys[t0]? = some (cA, .int)) {i : Int32} {x : Int32} (hout : ¬ vp_in i n) (hdg : decode cc pc = .ok (.iastore, 1))
    (k : ∀ tx : String, tx = (toString "Index " ++ toString i ++ toString " out of bounds for length " ++ toString n : String) → vx_Note p l e R s m args below meth c H locs cells slots Q (F0 m pc ls rest) "java/lang/ArrayIndexOutOfBoundsException" tx) : W p l e R s m args below meth c H locs cells slots Q (F0 m pc ls (.int x :: .int i :: .ref a :: rest)) := by
  intro T hT X
  obtain ⟨t, st, q⟩ := k _ rfl T hT X
  refine ⟨t, ?_, q⟩
  have h1 := X.iastoreOut hexec (by rw [hT]; exact hP q0 _ ha) ((hK.2 t0 _ ht).1 n (fun j => .int (f j))) (j := i) (by show (i < 0 ∨ (arrV _ _ _).slots.size ≤ _); rw [arrV_size]; exact Classical.byContradiction hout) (g := F0 m pc ls (.int x :: .int i :: .ref a :: rest)) rfl (rest := rest) rfl (by rw [hb]; exact hdg) t
  simp only [arrV_size] at h1
  exact h1 st
theorem vx_baldZ {D : va_G} {cl : List vw_C} {ws : va_W} {tys : List (ClassId × FieldType)} {a : Nat} (hexec : p.tables.exec = Jvm.exec) (hb : c.code = cc) (hK : va_K D cl tys s) (hP : va_P D cl ws H) (q0 t0 : Nat) {cA : ClassId} {n : Nat} {f : Nat → Int32} (ha : ws[q0]? = some (a, .inl (cA, n, .inl f))) (ht : tys[t0]? = some (cA, .byte)) {i : Int32} (hout : ¬ vp_in i n) (hdg : decode cc pc = .ok (.baload, 1))
    (k : ∀ tx : String, tx = (toString "Index " ++ toString i ++ toString " out of bounds for length " ++ toString n : String) → vx_Note p l e R s m args below meth c H locs cells slots Q (F0 m pc ls rest) "java/lang/ArrayIndexOutOfBoundsException" tx) : W p l e R s m args below meth c H locs cells slots Q (F0 m pc ls (.int i :: .ref a :: rest)) := by
  intro T hT X
  obtain ⟨t, st, q⟩ := k _ rfl T hT X
  refine ⟨t, ?_, q⟩
  have h1 := X.baloadOut hexec (by rw [hT]; exact hP q0 _ ha) ((hK.2 t0 _ ht).1 n (fun j => .int (f j))) (j := i) (by show (i < 0 ∨ (arrV _ _ _).slots.size ≤ _); rw [arrV_size]; exact Classical.byContradiction hout) (g := F0 m pc ls (.int i :: .ref a :: rest)) rfl (rest := rest) rfl (by rw [hb]; exact hdg) t
  simp only [arrV_size] at h1
  exact h1 st
theorem vx_bastZ {D : va_G} {cl : List vw_C} {ws : va_W} {tys : List (ClassId × FieldType)} {a : Nat} (hexec : p.tables.exec = Jvm.exec) (hb : c.code = cc) (hK : va_K D cl tys s) (hP : va_P D cl ws H) (q0 t0 : Nat) {cA : ClassId} {n : Nat} {f : Nat → Int32} (ha : ws[q0]? = some (a, .inl (cA, n, .inl f))) (ht : tys[t0]? = some (cA, .byte)) {i : Int32} {x : Int32} (hout : ¬ vp_in i n) (hdg : decode cc pc = .ok (.bastore, 1))
    (k : ∀ tx : String, tx = (toString "Index " ++ toString i ++ toString " out of bounds for length " ++ toString n : String) → vx_Note p l e R s m args below meth c H locs cells slots Q (F0 m pc ls rest) "java/lang/ArrayIndexOutOfBoundsException" tx) : W p l e R s m args below meth c H locs cells slots Q (F0 m pc ls (.int x :: .int i :: .ref a :: rest)) := by
  intro T hT X
  obtain ⟨t, st, q⟩ := k _ rfl T hT X
  refine ⟨t, ?_, q⟩
  have h1 := X.bastoreOut hexec (by rw [hT]; exact hP q0 _ ha) ((hK.2 t0 _ ht).1 n (fun j => .int (f j))) (j := i) (by show (i < 0 ∨ (arrV _ _ _).slots.size ≤ _); rw [arrV_size]; exact Classical.byContradiction hout) (g := F0 m pc ls (.int x :: .int i :: .ref a :: rest)) rfl (rest := rest) rfl (by rw [hb]; exact hdg) t
  simp only [arrV_size] at h1
  exact h1 st
theorem vx_zaldZ {D : va_G} {cl : List vw_C} {ws : va_W} {tys : List (ClassId × FieldType)} {a : Nat} (hexec : p.tables.exec = Jvm.exec) (hb : c.code = cc) (hK : va_K D cl tys s) (hP : va_P D cl ws H) (q0 t0 : Nat) {cA : ClassId} {n : Nat} {f : Nat → Int32} (ha : ws[q0]? = some (a, .inl (cA, n, .inl f))) (ht : tys[t0]? = some (cA, .boolean)) {i : Int32} (hout : ¬ vp_in i n) (hdg : decode cc pc = .ok (.baload, 1))
    (k : ∀ tx : String, tx = (toString "Index " ++ toString i ++ toString " out of bounds for length " ++ toString n : String) → vx_Note p l e R s m args below meth c H locs cells slots Q (F0 m pc ls rest) "java/lang/ArrayIndexOutOfBoundsException" tx) : W p l e R s m args below meth c H locs cells slots Q (F0 m pc ls (.int i :: .ref a :: rest)) := by
  intro T hT X
  obtain ⟨t, st, q⟩ := k _ rfl T hT X
  refine ⟨t, ?_, q⟩
  have h1 := X.baloadOut hexec (by rw [hT]; exact hP q0 _ ha) ((hK.2 t0 _ ht).1 n (fun j => .int (f j))) (j := i) (by show (i < 0 ∨ (arrV _ _ _).slots.size ≤ _); rw [arrV_size]; exact Classical.byContradiction hout) (g := F0 m pc ls (.int i :: .ref a :: rest)) rfl (rest := rest) rfl (by rw [hb]; exact hdg) t
  simp only [arrV_size] at h1
  exact h1 st
theorem vx_zastZ {D : va_G} {cl : List vw_C} {ws : va_W} {tys : List (ClassId × FieldType)} {a : Nat} (hexec : p.tables.exec = Jvm.exec) (hb : c.code = cc) (hK : va_K D cl tys s) (hP : va_P D cl ws H) (q0 t0 : Nat) {cA : ClassId} {n : Nat} {f : Nat → Int32} (ha : ws[q0]? = some (a, .inl (cA, n, .inl f))) (ht : tys[t0]? = some (cA, .boolean)) {i : Int32} {x : Int32} (hout : ¬ vp_in i n) (hdg : decode cc pc = .ok (.bastore, 1))
    (k : ∀ tx : String, tx = (toString "Index " ++ toString i ++ toString " out of bounds for length " ++ toString n : String) → vx_Note p l e R s m args below meth c H locs cells slots Q (F0 m pc ls rest) "java/lang/ArrayIndexOutOfBoundsException" tx) : W p l e R s m args below meth c H locs cells slots Q (F0 m pc ls (.int x :: .int i :: .ref a :: rest)) := by
  intro T hT X
  obtain ⟨t, st, q⟩ := k _ rfl T hT X
  refine ⟨t, ?_, q⟩
  have h1 := X.bastoreOut hexec (by rw [hT]; exact hP q0 _ ha) ((hK.2 t0 _ ht).1 n (fun j => .int (f j))) (j := i) (by show (i < 0 ∨ (arrV _ _ _).slots.size ≤ _); rw [arrV_size]; exact Classical.byContradiction hout) (g := F0 m pc ls (.int x :: .int i :: .ref a :: rest)) rfl (rest := rest) rfl (by rw [hb]; exact hdg) t
  simp only [arrV_size] at h1
  exact h1 st
theorem vx_caldZ {D : va_G} {cl : List vw_C} {ws : va_W} {tys : List (ClassId × FieldType)} {a : Nat} (hexec : p.tables.exec = Jvm.exec) (hb : c.code = cc) (hK : va_K D cl tys s) (hP : va_P D cl ws H) (q0 t0 : Nat) {cA : ClassId} {n : Nat} {f : Nat → Int32} (ha : ws[q0]? = some (a, .inl (cA, n, .inl f))) (ht : tys[t0]? = some (cA, .char)) {i : Int32} (hout : ¬ vp_in i n) (hdg : decode cc pc = .ok (.caload, 1))
    (k : ∀ tx : String, tx = (toString "Index " ++ toString i ++ toString " out of bounds for length " ++ toString n : String) → vx_Note p l e R s m args below meth c H locs cells slots Q (F0 m pc ls rest) "java/lang/ArrayIndexOutOfBoundsException" tx) : W p l e R s m args below meth c H locs cells slots Q (F0 m pc ls (.int i :: .ref a :: rest)) := by
  intro T hT X
  obtain ⟨t, st, q⟩ := k _ rfl T hT X
  refine ⟨t, ?_, q⟩
  have h1 := X.caloadOut hexec (by rw [hT]; exact hP q0 _ ha) ((hK.2 t0 _ ht).1 n (fun j => .int (f j))) (j := i) (by show (i < 0 ∨ (arrV _ _ _).slots.size ≤ _); rw [arrV_size]; exact Classical.byContradiction hout) (g := F0 m pc ls (.int i :: .ref a :: rest)) rfl (rest := rest) rfl (by rw [hb]; exact hdg) t
  simp only [arrV_size] at h1
  exact h1 st
theorem vx_castZ {D : va_G} {cl : List vw_C} {ws : va_W} {tys : List (ClassId × FieldType)} {a : Nat} (hexec : p.tables.exec = Jvm.exec) (hb : c.code = cc) (hK : va_K D cl tys s) (hP : va_P D cl ws H) (q0 t0 : Nat) {cA : ClassId} {n : Nat} {f : Nat → Int32} (ha : ws[q0]? = some (a, .inl (cA, n, .inl f))) (ht : tys[t0]? = some (cA, .char)) {i : Int32} {x : Int32} (hout : ¬ vp_in i n) (hdg : decode cc pc = .ok (.castore, 1))
    (k : ∀ tx : String, tx = (toString "Index " ++ toString i ++ toString " out of bounds for length " ++ toString n : String) → vx_Note p l e R s m args below meth c H locs cells slots Q (F0 m pc ls rest) "java/lang/ArrayIndexOutOfBoundsException" tx) : W p l e R s m args below meth c H locs cells slots Q (F0 m pc ls (.int x :: .int i :: .ref a :: rest)) := by
  intro T hT X
  obtain ⟨t, st, q⟩ := k _ rfl T hT X
  refine ⟨t, ?_, q⟩
  have h1 := X.castoreOut hexec (by rw [hT]; exact hP q0 _ ha) ((hK.2 t0 _ ht).1 n (fun j => .int (f j))) (j := i) (by show (i < 0 ∨ (arrV _ _ _).slots.size ≤ _); rw [arrV_size]; exact Classical.byContradiction hout) (g := F0 m pc ls (.int x :: .int i :: .ref a :: rest)) rfl (rest := rest) rfl (by rw [hb]; exact hdg) t
  simp only [arrV_size] at h1
  exact h1 st
theorem vx_saldZ {D : va_G} {cl : List vw_C} {ws : va_W} {tys : List (ClassId × FieldType)} {a : Nat} (hexec : p.tables.exec = Jvm.exec) (hb : c.code = cc) (hK : va_K D cl tys s) (hP : va_P D cl ws H) (q0 t0 : Nat) {cA : ClassId} {n : Nat} {f : Nat → Int32} (ha : ws[q0]? = some (a, .inl (cA, n, .inl f))) (ht : tys[t0]? = some (cA, .short)) {i : Int32} (hout : ¬ vp_in i n) (hdg : decode cc pc = .ok (.saload, 1))
    (k : ∀ tx : String, tx = (toString "Index " ++ toString i ++ toString " out of bounds for length " ++ toString n : String) → vx_Note p l e R s m args below meth c H locs cells slots Q (F0 m pc ls rest) "java/lang/ArrayIndexOutOfBoundsException" tx) : W p l e R s m args below meth c H locs cells slots Q (F0 m pc ls (.int i :: .ref a :: rest)) := by
  intro T hT X
  obtain ⟨t, st, q⟩ := k _ rfl T hT X
  refine ⟨t, ?_, q⟩
  have h1 := X.saloadOut hexec (by rw [hT]; exact hP q0 _ ha) ((hK.2 t0 _ ht).1 n (fun j => .int (f j))) (j := i) (by show (i < 0 ∨ (arrV _ _ _).slots.size ≤ _); rw [arrV_size]; exact Classical.byContradiction hout) (g := F0 m pc ls (.int i :: .ref a :: rest)) rfl (rest := rest) rfl (by rw [hb]; exact hdg) t
  simp only [arrV_size] at h1
  exact h1 st
theorem vx_sastZ {D : va_G} {cl : List vw_C} {ws : va_W} {tys : List (ClassId × FieldType)} {a : Nat} (hexec : p.tables.exec = Jvm.exec) (hb : c.code = cc) (hK : va_K D cl tys s) (hP : va_P D cl ws H) (q0 t0 : Nat) {cA : ClassId} {n : Nat} {f : Nat → Int32} (ha : ws[q0]? = some (a, .inl (cA, n, .inl f))) (ht : tys[t0]? = some (cA, .short)) {i : Int32} {x : Int32} (hout : ¬ vp_in i n) (hdg : decode cc pc = .ok (.sastore, 1))
    (k : ∀ tx : String, tx = (toString "Index " ++ toString i ++ toString " out of bounds for length " ++ toString n : String) → vx_Note p l e R s m args below meth c H locs cells slots Q (F0 m pc ls rest) "java/lang/ArrayIndexOutOfBoundsException" tx) : W p l e R s m args below meth c H locs cells slots Q (F0 m pc ls (.int x :: .int i :: .ref a :: rest)) := by
  intro T hT X
  obtain ⟨t, st, q⟩ := k _ rfl T hT X
  refine ⟨t, ?_, q⟩
  have h1 := X.sastoreOut hexec (by rw [hT]; exact hP q0 _ ha) ((hK.2 t0 _ ht).1 n (fun j => .int (f j))) (j := i) (by show (i < 0 ∨ (arrV _ _ _).slots.size ≤ _); rw [arrV_size]; exact Classical.byContradiction hout) (g := F0 m pc ls (.int x :: .int i :: .ref a :: rest)) rfl (rest := rest) rfl (by rw [hb]; exact hdg) t
  simp only [arrV_size] at h1
  exact h1 st
theorem vx_laldZ {D : va_G} {cl : List vw_C} {ws : va_W} {tys : List (ClassId × FieldType)} {a : Nat} (hexec : p.tables.exec = Jvm.exec) (hb : c.code = cc) (hK : va_K D cl tys s) (hP : va_P D cl ws H) (q0 t0 : Nat) {cA : ClassId} {n : Nat} {f : Nat → Int64} (ha : ws[q0]? = some (a, .inl (cA, n, .inr (.inl f)))) (ht : tys[t0]? = some (cA, .long)) {i : Int32} (hout : ¬ vp_in i n) (hdg : decode cc pc = .ok (.laload, 1))
    (k : ∀ tx : String, tx = (toString "Index " ++ toString i ++ toString " out of bounds for length " ++ toString n : String) → vx_Note p l e R s m args below meth c H locs cells slots Q (F0 m pc ls rest) "java/lang/ArrayIndexOutOfBoundsException" tx) : W p l e R s m args below meth c H locs cells slots Q (F0 m pc ls (.int i :: .ref a :: rest)) := by
  intro T hT X
  obtain ⟨t, st, q⟩ := k _ rfl T hT X
  refine ⟨t, ?_, q⟩
  have h1 := X.laloadOut hexec (by rw [hT]; exact hP q0 _ ha) ((hK.2 t0 _ ht).1 n (fun j => .long (f j))) (j := i) (by show (i < 0 ∨ (arrV _ _ _).slots.size ≤ _); rw [arrV_size]; exact Classical.byContradiction hout) (g := F0 m pc ls (.int i :: .ref a :: rest)) rfl (rest := rest) rfl (by rw [hb]; exact hdg) t
  simp only [arrV_size] at h1
  exact h1 st
theorem vx_lastZ {D : va_G} {cl : List vw_C} {ws : va_W} {tys : List (ClassId × FieldType)} {a : Nat} (hexec : p.tables.exec = Jvm.exec) (hb : c.code = cc) (hK : va_K D cl tys s) (hP : va_P D cl ws H) (q0 t0 : Nat) {cA : ClassId} {n : Nat} {f : Nat → Int64} (ha : ws[q0]? = some (a, .inl (cA, n, .inr (.inl f)))) (ht : tys[t0]? = some (cA, .long)) {i : Int32} {x : Int64} (hout : ¬ vp_in i n) (hdg : decode cc pc = .ok (.lastore, 1))
    (k : ∀ tx : String, tx = (toString "Index " ++ toString i ++ toString " out of bounds for length " ++ toString n : String) → vx_Note p l e R s m args below meth c H locs cells slots Q (F0 m pc ls rest) "java/lang/ArrayIndexOutOfBoundsException" tx) : W p l e R s m args below meth c H locs cells slots Q (F0 m pc ls (.long x :: .int i :: .ref a :: rest)) := by
  intro T hT X
  obtain ⟨t, st, q⟩ := k _ rfl T hT X
  refine ⟨t, ?_, q⟩
  have h1 := X.lastoreOut hexec (by rw [hT]; exact hP q0 _ ha) ((hK.2 t0 _ ht).1 n (fun j => .long (f j))) (j := i) (by show (i < 0 ∨ (arrV _ _ _).slots.size ≤ _); rw [arrV_size]; exact Classical.byContradiction hout) (g := F0 m pc ls (.long x :: .int i :: .ref a :: rest)) rfl (rest := rest) rfl (by rw [hb]; exact hdg) t
  simp only [arrV_size] at h1
  exact h1 st
theorem vx_faldZ {D : va_G} {cl : List vw_C} {ws : va_W} {tys : List (ClassId × FieldType)} {a : Nat} (hexec : p.tables.exec = Jvm.exec) (hb : c.code = cc) (hK : va_K D cl tys s) (hP : va_P D cl ws H) (q0 t0 : Nat) {cA : ClassId} {n : Nat} {f : Nat → UInt32} (ha : ws[q0]? = some (a, .inl (cA, n, .inr (.inr (.inl f))))) (ht : tys[t0]? = some (cA, .float)) {i : Int32} (hout : ¬ vp_in i n) (hdg : decode cc pc = .ok (.faload, 1))
    (k : ∀ tx : String, tx = (toString "Index " ++ toString i ++ toString " out of bounds for length " ++ toString n : String) → vx_Note p l e R s m args below meth c H locs cells slots Q (F0 m pc ls rest) "java/lang/ArrayIndexOutOfBoundsException" tx) : W p l e R s m args below meth c H locs cells slots Q (F0 m pc ls (.int i :: .ref a :: rest)) := by
  intro T hT X
  obtain ⟨t, st, q⟩ := k _ rfl T hT X
  refine ⟨t, ?_, q⟩
  have h1 := X.faloadOut hexec (by rw [hT]; exact hP q0 _ ha) ((hK.2 t0 _ ht).1 n (fun j => .float (f j))) (j := i) (by show (i < 0 ∨ (arrV _ _ _).slots.size ≤ _); rw [arrV_size]; exact Classical.byContradiction hout) (g := F0 m pc ls (.int i :: .ref a :: rest)) rfl (rest := rest) rfl (by rw [hb]; exact hdg) t
  simp only [arrV_size] at h1
  exact h1 st
theorem vx_fastZ {D : va_G} {cl : List vw_C} {ws : va_W} {tys : List (ClassId × FieldType)} {a : Nat} (hexec : p.tables.exec = Jvm.exec) (hb : c.code = cc) (hK : va_K D cl tys s) (hP : va_P D cl ws H) (q0 t0 : Nat) {cA : ClassId} {n : Nat} {f : Nat → UInt32} (ha : ws[q0]? = some (a, .inl (cA, n, .inr (.inr (.inl f))))) (ht : tys[t0]? = some (cA, .float)) {i : Int32} {x : UInt32} (hout : ¬ vp_in i n) (hdg : decode cc pc = .ok (.fastore, 1))
    (k : ∀ tx : String, tx = (toString "Index " ++ toString i ++ toString " out of bounds for length " ++ toString n : String) → vx_Note p l e R s m args below meth c H locs cells slots Q (F0 m pc ls rest) "java/lang/ArrayIndexOutOfBoundsException" tx) : W p l e R s m args below meth c H locs cells slots Q (F0 m pc ls (.float x :: .int i :: .ref a :: rest)) := by
  intro T hT X
  obtain ⟨t, st, q⟩ := k _ rfl T hT X
  refine ⟨t, ?_, q⟩
  have h1 := X.fastoreOut hexec (by rw [hT]; exact hP q0 _ ha) ((hK.2 t0 _ ht).1 n (fun j => .float (f j))) (j := i) (by show (i < 0 ∨ (arrV _ _ _).slots.size ≤ _); rw [arrV_size]; exact Classical.byContradiction hout) (g := F0 m pc ls (.float x :: .int i :: .ref a :: rest)) rfl (rest := rest) rfl (by rw [hb]; exact hdg) t
  simp only [arrV_size] at h1
  exact h1 st
theorem vx_daldZ {D : va_G} {cl : List vw_C} {ws : va_W} {tys : List (ClassId × FieldType)} {a : Nat} (hexec : p.tables.exec = Jvm.exec) (hb : c.code = cc) (hK : va_K D cl tys s) (hP : va_P D cl ws H) (q0 t0 : Nat) {cA : ClassId} {n : Nat} {f : Nat → UInt64} (ha : ws[q0]? = some (a, .inl (cA, n, .inr (.inr (.inr (.inl f)))))) (ht : tys[t0]? = some (cA, .double)) {i : Int32} (hout : ¬ vp_in i n) (hdg : decode cc pc = .ok (.daload, 1))
    (k : ∀ tx : String, tx = (toString "Index " ++ toString i ++ toString " out of bounds for length " ++ toString n : String) → vx_Note p l e R s m args below meth c H locs cells slots Q (F0 m pc ls rest) "java/lang/ArrayIndexOutOfBoundsException" tx) : W p l e R s m args below meth c H locs cells slots Q (F0 m pc ls (.int i :: .ref a :: rest)) := by
  intro T hT X
  obtain ⟨t, st, q⟩ := k _ rfl T hT X
  refine ⟨t, ?_, q⟩
  have h1 := X.daloadOut hexec (by rw [hT]; exact hP q0 _ ha) ((hK.2 t0 _ ht).1 n (fun j => .double (f j))) (j := i) (by show (i < 0 ∨ (arrV _ _ _).slots.size ≤ _); rw [arrV_size]; exact Classical.byContradiction hout) (g := F0 m pc ls (.int i :: .ref a :: rest)) rfl (rest := rest) rfl (by rw [hb]; exact hdg) t
  simp only [arrV_size] at h1
  exact h1 st
theorem vx_dastZ {D : va_G} {cl : List vw_C} {ws : va_W} {tys : List (ClassId × FieldType)} {a : Nat} (hexec : p.tables.exec = Jvm.exec) (hb : c.code = cc) (hK : va_K D cl tys s) (hP : va_P D cl ws H) (q0 t0 : Nat) {cA : ClassId} {n : Nat} {f : Nat → UInt64} (ha : ws[q0]? = some (a, .inl (cA, n, .inr (.inr (.inr (.inl f)))))) (ht : tys[t0]? = some (cA, .double)) {i : Int32} {x : UInt64} (hout : ¬ vp_in i n) (hdg : decode cc pc = .ok (.dastore, 1))
    (k : ∀ tx : String, tx = (toString "Index " ++ toString i ++ toString " out of bounds for length " ++ toString n : String) → vx_Note p l e R s m args below meth c H locs cells slots Q (F0 m pc ls rest) "java/lang/ArrayIndexOutOfBoundsException" tx) : W p l e R s m args below meth c H locs cells slots Q (F0 m pc ls (.double x :: .int i :: .ref a :: rest)) := by
  intro T hT X
  obtain ⟨t, st, q⟩ := k _ rfl T hT X
  refine ⟨t, ?_, q⟩
  have h1 := X.dastoreOut hexec (by rw [hT]; exact hP q0 _ ha) ((hK.2 t0 _ ht).1 n (fun j => .double (f j))) (j := i) (by show (i < 0 ∨ (arrV _ _ _).slots.size ≤ _); rw [arrV_size]; exact Classical.byContradiction hout) (g := F0 m pc ls (.double x :: .int i :: .ref a :: rest)) rfl (rest := rest) rfl (by rw [hb]; exact hdg) t
  simp only [arrV_size] at h1
  exact h1 st
theorem vx_arraylengthN (hexec : p.tables.exec = Jvm.exec) (hb : c.code = cc) (hdg : decode cc pc = .ok (.arraylength, 1)) (k : vx_NoteN p l e R s m args below meth c H locs cells slots Q (F0 m pc ls rest)) : W p l e R s m args below meth c H locs cells slots Q (F0 m pc ls (.null :: rest)) := by
  intro T hT X
  obtain ⟨t, st, q⟩ := k T hT X
  exact ⟨t, X.arraylengthNull hexec (g := F0 m pc ls (.null :: rest)) rfl (rest := rest) rfl (by rw [hb]; exact hdg) t st, q⟩
theorem vx_ialoadN (hexec : p.tables.exec = Jvm.exec) (hb : c.code = cc) {i : Int32} (hdg : decode cc pc = .ok (.iaload, 1)) (k : vx_NoteN p l e R s m args below meth c H locs cells slots Q (F0 m pc ls rest)) : W p l e R s m args below meth c H locs cells slots Q (F0 m pc ls (.int i :: .null :: rest)) := by
  intro T hT X
  obtain ⟨t, st, q⟩ := k T hT X
  exact ⟨t, X.ialoadNull hexec (g := F0 m pc ls (.int i :: .null :: rest)) rfl (rest := rest) rfl (by rw [hb]; exact hdg) t st, q⟩
theorem vx_laloadN (hexec : p.tables.exec = Jvm.exec) (hb : c.code = cc) {i : Int32} (hdg : decode cc pc = .ok (.laload, 1)) (k : vx_NoteN p l e R s m args below meth c H locs cells slots Q (F0 m pc ls rest)) : W p l e R s m args below meth c H locs cells slots Q (F0 m pc ls (.int i :: .null :: rest)) := by
  intro T hT X
  obtain ⟨t, st, q⟩ := k T hT X
  exact ⟨t, X.laloadNull hexec (g := F0 m pc ls (.int i :: .null :: rest)) rfl (rest := rest) rfl (by rw [hb]; exact hdg) t st, q⟩
theorem vx_faloadN (hexec : p.tables.exec = Jvm.exec) (hb : c.code = cc) {i : Int32} (hdg : decode cc pc = .ok (.faload, 1)) (k : vx_NoteN p l e R s m args below meth c H locs cells slots Q (F0 m pc ls rest)) : W p l e R s m args below meth c H locs cells slots Q (F0 m pc ls (.int i :: .null :: rest)) := by
  intro T hT X
  obtain ⟨t, st, q⟩ := k T hT X
  exact ⟨t, X.faloadNull hexec (g := F0 m pc ls (.int i :: .null :: rest)) rfl (rest := rest) rfl (by rw [hb]; exact hdg) t st, q⟩
theorem vx_daloadN (hexec : p.tables.exec = Jvm.exec) (hb : c.code = cc) {i : Int32} (hdg : decode cc pc = .ok (.daload, 1)) (k : vx_NoteN p l e R s m args below meth c H locs cells slots Q (F0 m pc ls rest)) : W p l e R s m args below meth c H locs cells slots Q (F0 m pc ls (.int i :: .null :: rest)) := by
  intro T hT X
  obtain ⟨t, st, q⟩ := k T hT X
  exact ⟨t, X.daloadNull hexec (g := F0 m pc ls (.int i :: .null :: rest)) rfl (rest := rest) rfl (by rw [hb]; exact hdg) t st, q⟩
theorem vx_aaloadN (hexec : p.tables.exec = Jvm.exec) (hb : c.code = cc) {i : Int32} (hdg : decode cc pc = .ok (.aaload, 1)) (k : vx_NoteN p l e R s m args below meth c H locs cells slots Q (F0 m pc ls rest)) : W p l e R s m args below meth c H locs cells slots Q (F0 m pc ls (.int i :: .null :: rest)) := by
  intro T hT X
  obtain ⟨t, st, q⟩ := k T hT X
  exact ⟨t, X.aaloadNull hexec (g := F0 m pc ls (.int i :: .null :: rest)) rfl (rest := rest) rfl (by rw [hb]; exact hdg) t st, q⟩
theorem vx_baloadN (hexec : p.tables.exec = Jvm.exec) (hb : c.code = cc) {i : Int32} (hdg : decode cc pc = .ok (.baload, 1)) (k : vx_NoteN p l e R s m args below meth c H locs cells slots Q (F0 m pc ls rest)) : W p l e R s m args below meth c H locs cells slots Q (F0 m pc ls (.int i :: .null :: rest)) := by
  intro T hT X
  obtain ⟨t, st, q⟩ := k T hT X
  exact ⟨t, X.baloadNull hexec (g := F0 m pc ls (.int i :: .null :: rest)) rfl (rest := rest) rfl (by rw [hb]; exact hdg) t st, q⟩
theorem vx_caloadN (hexec : p.tables.exec = Jvm.exec) (hb : c.code = cc) {i : Int32} (hdg : decode cc pc = .ok (.caload, 1)) (k : vx_NoteN p l e R s m args below meth c H locs cells slots Q (F0 m pc ls rest)) : W p l e R s m args below meth c H locs cells slots Q (F0 m pc ls (.int i :: .null :: rest)) := by
  intro T hT X
  obtain ⟨t, st, q⟩ := k T hT X
  exact ⟨t, X.caloadNull hexec (g := F0 m pc ls (.int i :: .null :: rest)) rfl (rest := rest) rfl (by rw [hb]; exact hdg) t st, q⟩
theorem vx_saloadN (hexec : p.tables.exec = Jvm.exec) (hb : c.code = cc) {i : Int32} (hdg : decode cc pc = .ok (.saload, 1)) (k : vx_NoteN p l e R s m args below meth c H locs cells slots Q (F0 m pc ls rest)) : W p l e R s m args below meth c H locs cells slots Q (F0 m pc ls (.int i :: .null :: rest)) := by
  intro T hT X
  obtain ⟨t, st, q⟩ := k T hT X
  exact ⟨t, X.saloadNull hexec (g := F0 m pc ls (.int i :: .null :: rest)) rfl (rest := rest) rfl (by rw [hb]; exact hdg) t st, q⟩
theorem vx_iastoreN (hexec : p.tables.exec = Jvm.exec) (hb : c.code = cc) {x : Int32} {i : Int32} (hdg : decode cc pc = .ok (.iastore, 1)) (k : vx_NoteN p l e R s m args below meth c H locs cells slots Q (F0 m pc ls rest)) : W p l e R s m args below meth c H locs cells slots Q (F0 m pc ls (.int x :: .int i :: .null :: rest)) := by
  intro T hT X
  obtain ⟨t, st, q⟩ := k T hT X
  exact ⟨t, X.iastoreNull hexec (g := F0 m pc ls (.int x :: .int i :: .null :: rest)) rfl (rest := rest) rfl (by rw [hb]; exact hdg) t st, q⟩
theorem vx_lastoreN (hexec : p.tables.exec = Jvm.exec) (hb : c.code = cc) {x : Int64} {i : Int32} (hdg : decode cc pc = .ok (.lastore, 1)) (k : vx_NoteN p l e R s m args below meth c H locs cells slots Q (F0 m pc ls rest)) : W p l e R s m args below meth c H locs cells slots Q (F0 m pc ls (.long x :: .int i :: .null :: rest)) := by
  intro T hT X
  obtain ⟨t, st, q⟩ := k T hT X
  exact ⟨t, X.lastoreNull hexec (g := F0 m pc ls (.long x :: .int i :: .null :: rest)) rfl (rest := rest) rfl (by rw [hb]; exact hdg) t st, q⟩
theorem vx_fastoreN (hexec : p.tables.exec = Jvm.exec) (hb : c.code = cc) {x : UInt32} {i : Int32} (hdg : decode cc pc = .ok (.fastore, 1)) (k : vx_NoteN p l e R s m args below meth c H locs cells slots Q (F0 m pc ls rest)) : W p l e R s m args below meth c H locs cells slots Q (F0 m pc ls (.float x :: .int i :: .null :: rest)) := by
  intro T hT X
  obtain ⟨t, st, q⟩ := k T hT X
  exact ⟨t, X.fastoreNull hexec (g := F0 m pc ls (.float x :: .int i :: .null :: rest)) rfl (rest := rest) rfl (by rw [hb]; exact hdg) t st, q⟩
theorem vx_dastoreN (hexec : p.tables.exec = Jvm.exec) (hb : c.code = cc) {x : UInt64} {i : Int32} (hdg : decode cc pc = .ok (.dastore, 1)) (k : vx_NoteN p l e R s m args below meth c H locs cells slots Q (F0 m pc ls rest)) : W p l e R s m args below meth c H locs cells slots Q (F0 m pc ls (.double x :: .int i :: .null :: rest)) := by
  intro T hT X
  obtain ⟨t, st, q⟩ := k T hT X
  exact ⟨t, X.dastoreNull hexec (g := F0 m pc ls (.double x :: .int i :: .null :: rest)) rfl (rest := rest) rfl (by rw [hb]; exact hdg) t st, q⟩
theorem vx_bastoreN (hexec : p.tables.exec = Jvm.exec) (hb : c.code = cc) {x : Int32} {i : Int32} (hdg : decode cc pc = .ok (.bastore, 1)) (k : vx_NoteN p l e R s m args below meth c H locs cells slots Q (F0 m pc ls rest)) : W p l e R s m args below meth c H locs cells slots Q (F0 m pc ls (.int x :: .int i :: .null :: rest)) := by
  intro T hT X
  obtain ⟨t, st, q⟩ := k T hT X
  exact ⟨t, X.bastoreNull hexec (g := F0 m pc ls (.int x :: .int i :: .null :: rest)) rfl (rest := rest) rfl (by rw [hb]; exact hdg) t st, q⟩
theorem vx_castoreN (hexec : p.tables.exec = Jvm.exec) (hb : c.code = cc) {x : Int32} {i : Int32} (hdg : decode cc pc = .ok (.castore, 1)) (k : vx_NoteN p l e R s m args below meth c H locs cells slots Q (F0 m pc ls rest)) : W p l e R s m args below meth c H locs cells slots Q (F0 m pc ls (.int x :: .int i :: .null :: rest)) := by
  intro T hT X
  obtain ⟨t, st, q⟩ := k T hT X
  exact ⟨t, X.castoreNull hexec (g := F0 m pc ls (.int x :: .int i :: .null :: rest)) rfl (rest := rest) rfl (by rw [hb]; exact hdg) t st, q⟩
theorem vx_sastoreN (hexec : p.tables.exec = Jvm.exec) (hb : c.code = cc) {x : Int32} {i : Int32} (hdg : decode cc pc = .ok (.sastore, 1)) (k : vx_NoteN p l e R s m args below meth c H locs cells slots Q (F0 m pc ls rest)) : W p l e R s m args below meth c H locs cells slots Q (F0 m pc ls (.int x :: .int i :: .null :: rest)) := by
  intro T hT X
  obtain ⟨t, st, q⟩ := k T hT X
  exact ⟨t, X.sastoreNull hexec (g := F0 m pc ls (.int x :: .int i :: .null :: rest)) rfl (rest := rest) rfl (by rw [hb]; exact hdg) t st, q⟩
theorem vx_invokeN {own C : String} {index maxL : Nat} {y : MethodName} {bytes : ByteArray} {ret : Option FieldType} (hexec : p.tables.exec = Jvm.exec) (hb : c.code = cc) (hown : s.vm.findClass own = some m.cls) (hlink : (Cond.methodLink own index y).before args s = true) (hinst : (Cond.instanceMethod y).before args s = true) (hcode : (Cond.code y bytes maxL ret).before args s = true) (hsel : (Cond.selects C y y).before args s = true)
    (hx : y.cls ≠ "java/lang/invoke/MethodHandle" ∧ y.cls ≠ "java/lang/invoke/VarHandle") {As : List Value} (hlen : (parseMethodDescriptor y.desc).map (fun d => d.parameters.length) = some As.length) (hdg : decode cc pc = .ok (.invokevirtual index, 3))
    (k : vx_NoteN p l e R s m args below meth c H locs cells slots Q (F0 m pc ls rest)) {st0 : List Value} (hst : st0 = As.reverse ++ .null :: rest) : W p l e R s m args below meth c H locs cells slots Q (F0 m pc ls st0) := by
  intro T hT X
  obtain ⟨r0, r, hn, hrm, hstR, hsigR⟩ := va_Decl.of hinst hcode
  obtain ⟨c2, r2, m2, q1, q2, q3, q4, kP, hkP, hkPi⟩ := Cond.selects_spec hsel
  cases hn.symm.trans q3
  have hl9 : As.length = r.sig.parameters.length := by
    rw [hsigR] at hlen
    exact (Option.some.inj hlen).symm
  obtain ⟨vm', X1, st1⟩ := X.invokevirtualNull hexec hown hlink hn hrm hstR hkP hkPi hx (g := F0 m pc ls st0) rfl (argsL := As) (rest := rest) hl9 hst (by rw [hb]; exact hdg)
  obtain ⟨t, st, q⟩ := k (T.setVm vm') hT X1
  exact ⟨t, st1 t st, q⟩
theorem vx_newarrayZ {atype : ArrayType} (hexec : p.tables.exec = Jvm.exec) (hb : c.code = cc) {n : Int32} (h0 : n < 0) (hdg : decode cc pc = .ok (.newarray atype, 2)) (k : ∀ tx : String, tx = toString n → vx_Note p l e R s m args below meth c H locs cells slots Q (F0 m pc ls rest) "java/lang/NegativeArraySizeException" tx) : W p l e R s m args below meth c H locs cells slots Q (F0 m pc ls (.int n :: rest)) := by
  intro T hT X
  obtain ⟨t, st, q⟩ := k _ rfl T hT X
  exact ⟨t, X.newarrayNegative hexec (g := F0 m pc ls (.int n :: rest)) rfl h0 (rest := rest) rfl (by rw [hb]; exact hdg) t st, q⟩
end
end VXM
/-! ===== END ===== -/
end
section
/-! ===== BEGIN printed: names, fields, word lists, decode rows ===== -/
def RX0 : String := "PitForge$Books"
def TX0 : u_T := fun k => match k with
  | 0 => ("PitForge$Books", "truth", "[I", true)
  | 1 => ("PitForge$Books", "place", "[C", true)
  | 2 => ("PitForge$Books", "dumped", "I", false)
  | 3 => ("PitForge$Books", "trueSum", "I", false)
  | 4 => ("PitForge$Books", "modelSum", "I", false)
  | 5 => ("PitForge$Books", "weeksPassed", "I", false)
  | _ => ("PitForge$Books", "balance", "J", false)
def tyX0 : Nat → FieldType := fun k => match k with
  | 0 => .array .int
  | 1 => .array .char
  | 2 => .int
  | 3 => .int
  | 4 => .int
  | 5 => .int
  | _ => .long
theorem nmX0 : ∀ a, a < 7 → ∀ b, b < 7 → a ≠ b → (TX0 a).2.1 ≠ (TX0 b).2.1 := by decide +kernel
theorem tyX0_ok : ∀ k, k < 7 → parseFieldDescriptor (TX0 k).2.2.1 = some (tyX0 k) := by decide +kernel
abbrev cX0_init : ByteArray := prog_2_method_1_code
def yX0_init : MethodName := ⟨RX0, "<init>", "()V"⟩
abbrev cX0_truthOf : ByteArray := prog_2_method_2_code
def yX0_truthOf : MethodName := ⟨RX0, "truthOf", "(I)I"⟩
abbrev cX0_noteTruth : ByteArray := prog_2_method_3_code
def yX0_noteTruth : MethodName := ⟨RX0, "noteTruth", "(II)V"⟩
abbrev cX0_placeOf : ByteArray := prog_2_method_4_code
def yX0_placeOf : MethodName := ⟨RX0, "placeOf", "(I)C"⟩
abbrev cX0_notePlace : ByteArray := prog_2_method_5_code
def yX0_notePlace : MethodName := ⟨RX0, "notePlace", "(IC)V"⟩
abbrev cX0_noteGrades : ByteArray := prog_2_method_6_code
def yX0_noteGrades : MethodName := ⟨RX0, "noteGrades", "(II)V"⟩
def RX1 : String := "PitForge$Ground"
def TX1 : u_T := fun k => match k with
  | 0 => ("PitForge$Ground", "hard", "[Z", true)
  | 1 => ("PitForge$Ground", "turn", "[I", true)
  | 2 => ("PitForge$Ground", "weekDug", "[I", true)
  | _ => ("PitForge$Ground", "dugCount", "I", false)
def tyX1 : Nat → FieldType := fun k => match k with
  | 0 => .array .boolean
  | 1 => .array .int
  | 2 => .array .int
  | _ => .int
theorem nmX1 : ∀ a, a < 4 → ∀ b, b < 4 → a ≠ b → (TX1 a).2.1 ≠ (TX1 b).2.1 := by decide +kernel
theorem tyX1_ok : ∀ k, k < 4 → parseFieldDescriptor (TX1 k).2.2.1 = some (tyX1 k) := by decide +kernel
abbrev cX1_init : ByteArray := prog_3_method_1_code
def yX1_init : MethodName := ⟨RX1, "<init>", "()V"⟩
abbrev cX1_wasDug : ByteArray := prog_3_method_2_code
def yX1_wasDug : MethodName := ⟨RX1, "wasDug", "(I)Z"⟩
abbrev cX1_isHard : ByteArray := prog_3_method_3_code
def yX1_isHard : MethodName := ⟨RX1, "isHard", "(I)Z"⟩
abbrev cX1_harden : ByteArray := prog_3_method_4_code
def yX1_harden : MethodName := ⟨RX1, "harden", "(IZ)V"⟩
abbrev cX1_weekOf : ByteArray := prog_3_method_5_code
def yX1_weekOf : MethodName := ⟨RX1, "weekOf", "(I)I"⟩
abbrev cX1_markDug : ByteArray := prog_3_method_6_code
def yX1_markDug : MethodName := ⟨RX1, "markDug", "(II)V"⟩
abbrev cX1_neededAbove : ByteArray := prog_3_method_7_code
def yX1_neededAbove : MethodName := ⟨RX1, "neededAbove", "(II)I"⟩
abbrev cX1_liesFree : ByteArray := prog_3_method_8_code
def yX1_liesFree : MethodName := ⟨RX1, "liesFree", "(I)Z"⟩
abbrev cX1_dugInColumn : ByteArray := prog_3_method_9_code
def yX1_dugInColumn : MethodName := ⟨RX1, "dugInColumn", "(I)I"⟩
abbrev cX1_deepestDug : ByteArray := prog_3_method_10_code
def yX1_deepestDug : MethodName := ⟨RX1, "deepestDug", "()I"⟩
abbrev cX1_wasDugInOrder : ByteArray := prog_3_method_11_code
def yX1_wasDugInOrder : MethodName := ⟨RX1, "wasDugInOrder", "()Z"⟩
abbrev cX1_wasAhead : ByteArray := prog_3_method_12_code
def yX1_wasAhead : MethodName := ⟨RX1, "wasAhead", "(II)Z"⟩
def RX2 : String := "PitForge$Numbers"
def TX2 : u_T := fun k => match k with
  | _ => ("PitForge$Numbers", "values", "[I", true)
def tyX2 : Nat → FieldType := fun k => match k with
  | _ => .array .int
theorem nmX2 : ∀ a, a < 1 → ∀ b, b < 1 → a ≠ b → (TX2 a).2.1 ≠ (TX2 b).2.1 := by decide +kernel
theorem tyX2_ok : ∀ k, k < 1 → parseFieldDescriptor (TX2 k).2.2.1 = some (tyX2 k) := by decide +kernel
abbrev cX2_init : ByteArray := prog_4_method_1_code
def yX2_init : MethodName := ⟨RX2, "<init>", "()V"⟩
abbrev cX2_mostFor : ByteArray := prog_4_method_2_code
def yX2_mostFor : MethodName := ⟨RX2, "mostFor", "(C)I"⟩
abbrev cX2_current : ByteArray := prog_4_method_3_code
def yX2_current : MethodName := ⟨RX2, "current", "(C)I"⟩
abbrev cX2_change : ByteArray := prog_4_method_4_code
def yX2_change : MethodName := ⟨RX2, "change", "(CI)V"⟩
abbrev cX2_indexOf : ByteArray := prog_4_method_5_code
def yX2_indexOf : MethodName := ⟨RX2, "indexOf", "(C)I"⟩
def RX3 : String := "PitForge$Ore"
def TX3 : u_T := fun k => match k with
  | 0 => ("PitForge$Ore", "sampleBlock", "[I", true)
  | 1 => ("PitForge$Ore", "sampleGrade", "[I", true)
  | 2 => ("PitForge$Ore", "known", "[I", true)
  | _ => ("PitForge$Ore", "samples", "I", false)
def tyX3 : Nat → FieldType := fun k => match k with
  | 0 => .array .int
  | 1 => .array .int
  | 2 => .array .int
  | _ => .int
theorem nmX3 : ∀ a, a < 4 → ∀ b, b < 4 → a ≠ b → (TX3 a).2.1 ≠ (TX3 b).2.1 := by decide +kernel
theorem tyX3_ok : ∀ k, k < 4 → parseFieldDescriptor (TX3 k).2.2.1 = some (tyX3 k) := by decide +kernel
abbrev cX3_init : ByteArray := prog_5_method_1_code
def yX3_init : MethodName := ⟨RX3, "<init>", "()V"⟩
abbrev cX3_isFull : ByteArray := prog_5_method_2_code
def yX3_isFull : MethodName := ⟨RX3, "isFull", "()Z"⟩
abbrev cX3_addSample : ByteArray := prog_5_method_3_code
def yX3_addSample : MethodName := ⟨RX3, "addSample", "(II)V"⟩
abbrev cX3_estimate : ByteArray := prog_5_method_4_code
def yX3_estimate : MethodName := ⟨RX3, "estimate", "(I)I"⟩
abbrev cX3_valueOf : ByteArray := prog_5_method_5_code
def yX3_valueOf : MethodName := ⟨RX3, "valueOf", "(II)I"⟩
abbrev cX3_meanFor : ByteArray := prog_5_method_6_code
def yX3_meanFor : MethodName := ⟨RX3, "meanFor", "(I)D"⟩
abbrev cX3_meanByDistance : ByteArray := prog_5_method_7_code
def yX3_meanByDistance : MethodName := ⟨RX3, "meanByDistance", "(I)D"⟩
abbrev cX3_squareBetween : ByteArray := prog_5_method_8_code
def yX3_squareBetween : MethodName := ⟨RX3, "squareBetween", "(II)I"⟩
def RX4 : String := "PitForge$Phases"
def TX4 : u_T := fun k => match k with
  | 0 => ("PitForge$Phases", "ground", "LPitForge$Ground;", true)
  | 1 => ("PitForge$Phases", "search", "LPitForge$PitSearch;", true)
  | 2 => ("PitForge$Phases", "prices", "[I", true)
  | 3 => ("PitForge$Phases", "number", "[I", true)
  | 4 => ("PitForge$Phases", "told", "I", false)
  | _ => ("PitForge$Phases", "stale", "Z", false)
def tyX4 : Nat → FieldType := fun k => match k with
  | 0 => .object "PitForge$Ground"
  | 1 => .object "PitForge$PitSearch"
  | 2 => .array .int
  | 3 => .array .int
  | 4 => .int
  | _ => .boolean
theorem nmX4 : ∀ a, a < 6 → ∀ b, b < 6 → a ≠ b → (TX4 a).2.1 ≠ (TX4 b).2.1 := by decide +kernel
theorem tyX4_ok : ∀ k, k < 6 → parseFieldDescriptor (TX4 k).2.2.1 = some (tyX4 k) := by decide +kernel
abbrev cX4_init : ByteArray := prog_6_method_1_code
def yX4_init : MethodName := ⟨RX4, "<init>", "(LPitForge$Ground;LPitForge$PitSearch;)V"⟩
abbrev cX4_isFull : ByteArray := prog_6_method_2_code
def yX4_isFull : MethodName := ⟨RX4, "isFull", "()Z"⟩
abbrev cX4_lastPrice : ByteArray := prog_6_method_3_code
def yX4_lastPrice : MethodName := ⟨RX4, "lastPrice", "()I"⟩
abbrev cX4_addPrice : ByteArray := prog_6_method_4_code
def yX4_addPrice : MethodName := ⟨RX4, "addPrice", "(I)V"⟩
abbrev cX4_dropAll : ByteArray := prog_6_method_5_code
def yX4_dropAll : MethodName := ⟨RX4, "dropAll", "()V"⟩
abbrev cX4_forget : ByteArray := prog_6_method_6_code
def yX4_forget : MethodName := ⟨RX4, "forget", "()V"⟩
abbrev cX4_refresh : ByteArray := prog_6_method_7_code
def yX4_refresh : MethodName := ⟨RX4, "refresh", "()V"⟩
abbrev cX4_numberFor : ByteArray := prog_6_method_8_code
def yX4_numberFor : MethodName := ⟨RX4, "numberFor", "(I)I"⟩
abbrev cX4_numberFound : ByteArray := prog_6_method_9_code
def yX4_numberFound : MethodName := ⟨RX4, "numberFound", "(I)V"⟩
def RX5 : String := "PitForge$Pile"
def TX5 : u_T := fun k => match k with
  | 0 => ("PitForge$Pile", "layers", "[I", true)
  | 1 => ("PitForge$Pile", "first", "I", false)
  | 2 => ("PitForge$Pile", "end", "I", false)
  | 3 => ("PitForge$Pile", "layerSum", "I", false)
  | 4 => ("PitForge$Pile", "heapCount", "I", false)
  | 5 => ("PitForge$Pile", "heapSum", "I", false)
  | _ => ("PitForge$Pile", "mixing", "Z", false)
def tyX5 : Nat → FieldType := fun k => match k with
  | 0 => .array .int
  | 1 => .int
  | 2 => .int
  | 3 => .int
  | 4 => .int
  | 5 => .int
  | _ => .boolean
theorem nmX5 : ∀ a, a < 7 → ∀ b, b < 7 → a ≠ b → (TX5 a).2.1 ≠ (TX5 b).2.1 := by decide +kernel
theorem tyX5_ok : ∀ k, k < 7 → parseFieldDescriptor (TX5 k).2.2.1 = some (tyX5 k) := by decide +kernel
abbrev cX5_init : ByteArray := prog_7_method_1_code
def yX5_init : MethodName := ⟨RX5, "<init>", "()V"⟩
abbrev cX5_count : ByteArray := prog_7_method_2_code
def yX5_count : MethodName := ⟨RX5, "count", "()I"⟩
abbrev cX5_sum : ByteArray := prog_7_method_3_code
def yX5_sum : MethodName := ⟨RX5, "sum", "()I"⟩
abbrev cX5_put : ByteArray := prog_7_method_4_code
def yX5_put : MethodName := ⟨RX5, "put", "(I)V"⟩
abbrev cX5_give : ByteArray := prog_7_method_5_code
def yX5_give : MethodName := ⟨RX5, "give", "()I"⟩
abbrev cX5_heapUp : ByteArray := prog_7_method_6_code
def yX5_heapUp : MethodName := ⟨RX5, "heapUp", "()V"⟩
abbrev cX5_giveOfHeap : ByteArray := prog_7_method_7_code
def yX5_giveOfHeap : MethodName := ⟨RX5, "giveOfHeap", "()I"⟩
abbrev cX5_giveLayer : ByteArray := prog_7_method_8_code
def yX5_giveLayer : MethodName := ⟨RX5, "giveLayer", "()I"⟩
def RX6 : String := "PitForge$PitSearch"
def TX6 : u_T := fun k => match k with
  | 0 => ("PitForge$PitSearch", "ground", "LPitForge$Ground;", true)
  | 1 => ("PitForge$PitSearch", "ore", "LPitForge$Ore;", true)
  | 2 => ("PitForge$PitSearch", "top", "[I", true)
  | 3 => ("PitForge$PitSearch", "asks", "[[I", true)
  | 4 => ("PitForge$PitSearch", "score", "[[I", true)
  | 5 => ("PitForge$PitSearch", "left", "[[I", true)
  | 6 => ("PitForge$PitSearch", "depth", "[I", true)
  | 7 => ("PitForge$PitSearch", "mustGo", "[Z", true)
  | 8 => ("PitForge$PitSearch", "foundWorth", "J", false)
  | _ => ("PitForge$PitSearch", "foundSize", "I", false)
def tyX6 : Nat → FieldType := fun k => match k with
  | 0 => .object "PitForge$Ground"
  | 1 => .object "PitForge$Ore"
  | 2 => .array .int
  | 3 => .array (.array .int)
  | 4 => .array (.array .int)
  | 5 => .array (.array .int)
  | 6 => .array .int
  | 7 => .array .boolean
  | 8 => .long
  | _ => .int
theorem nmX6 : ∀ a, a < 10 → ∀ b, b < 10 → a ≠ b → (TX6 a).2.1 ≠ (TX6 b).2.1 := by decide +kernel
theorem tyX6_ok : ∀ k, k < 10 → parseFieldDescriptor (TX6 k).2.2.1 = some (tyX6 k) := by decide +kernel
abbrev cX6_init : ByteArray := prog_8_method_1_code
def yX6_init : MethodName := ⟨RX6, "<init>", "(LPitForge$Ground;LPitForge$Ore;)V"⟩
abbrev cX6_find : ByteArray := prog_8_method_2_code
def yX6_find : MethodName := ⟨RX6, "find", "(I)V"⟩
abbrev cX6_covers : ByteArray := prog_8_method_3_code
def yX6_covers : MethodName := ⟨RX6, "covers", "(I)Z"⟩
abbrev cX6_measure : ByteArray := prog_8_method_4_code
def yX6_measure : MethodName := ⟨RX6, "measure", "(II)V"⟩
abbrev cX6_joinLeft : ByteArray := prog_8_method_5_code
def yX6_joinLeft : MethodName := ⟨RX6, "joinLeft", "(I)V"⟩
abbrev cX6_bestDepth : ByteArray := prog_8_method_6_code
def yX6_bestDepth : MethodName := ⟨RX6, "bestDepth", "(III)I"⟩
abbrev cX6_readDepths : ByteArray := prog_8_method_7_code
def yX6_readDepths : MethodName := ⟨RX6, "readDepths", "(I)V"⟩
abbrev cX6_leastPitValue : ByteArray := prog_8_method_8_code
def yX6_leastPitValue : MethodName := ⟨RX6, "leastPitValue", "(II)J"⟩
abbrev cX6_markNeeded : ByteArray := prog_8_method_9_code
def yX6_markNeeded : MethodName := ⟨RX6, "markNeeded", "(I)V"⟩
def RX7 : String := "PitForge$Plant"
def TX7 : u_T := fun k => match k with
  | 0 => ("PitForge$Plant", "grades", "[I", true)
  | 1 => ("PitForge$Plant", "fedNow", "I", false)
  | 2 => ("PitForge$Plant", "gradesNow", "I", false)
  | 3 => ("PitForge$Plant", "allFed", "I", false)
  | 4 => ("PitForge$Plant", "allGrades", "I", false)
  | 5 => ("PitForge$Plant", "everRan", "Z", false)
  | 6 => ("PitForge$Plant", "lastMean", "D", false)
  | 7 => ("PitForge$Plant", "lastRecovery", "I", false)
  | _ => ("PitForge$Plant", "metalMade", "J", false)
def tyX7 : Nat → FieldType := fun k => match k with
  | 0 => .array .int
  | 1 => .int
  | 2 => .int
  | 3 => .int
  | 4 => .int
  | 5 => .boolean
  | 6 => .double
  | 7 => .int
  | _ => .long
theorem nmX7 : ∀ a, a < 9 → ∀ b, b < 9 → a ≠ b → (TX7 a).2.1 ≠ (TX7 b).2.1 := by decide +kernel
theorem tyX7_ok : ∀ k, k < 9 → parseFieldDescriptor (TX7 k).2.2.1 = some (tyX7 k) := by decide +kernel
abbrev cX7_init : ByteArray := prog_9_method_1_code
def yX7_init : MethodName := ⟨RX7, "<init>", "()V"⟩
abbrev cX7_openWeek : ByteArray := prog_9_method_2_code
def yX7_openWeek : MethodName := ⟨RX7, "openWeek", "()V"⟩
abbrev cX7_feed : ByteArray := prog_9_method_3_code
def yX7_feed : MethodName := ⟨RX7, "feed", "(I)V"⟩
abbrev cX7_closeWeek : ByteArray := prog_9_method_4_code
def yX7_closeWeek : MethodName := ⟨RX7, "closeWeek", "()J"⟩
abbrev cX7_recoveryAt : ByteArray := prog_9_method_5_code
def yX7_recoveryAt : MethodName := ⟨RX7, "recoveryAt", "(D)I"⟩
def RX8 : String := "PitForge$Sump"
def TX8 : u_T := fun k => match k with
  | _ => ("PitForge$Sump", "units", "I", false)
def tyX8 : Nat → FieldType := fun k => match k with
  | _ => .int
theorem nmX8 : ∀ a, a < 1 → ∀ b, b < 1 → a ≠ b → (TX8 a).2.1 ≠ (TX8 b).2.1 := by decide +kernel
theorem tyX8_ok : ∀ k, k < 1 → parseFieldDescriptor (TX8 k).2.2.1 = some (tyX8 k) := by decide +kernel
abbrev cX8_init : ByteArray := prog_10_method_1_code
def yX8_init : MethodName := ⟨RX8, "<init>", "()V"⟩
abbrev cX8_rainAndPump : ByteArray := prog_10_method_2_code
def yX8_rainAndPump : MethodName := ⟨RX8, "rainAndPump", "(II)I"⟩
def RX9 : String := "PitForge"
def TX9 : u_T := fun k => match k with
  | 0 => ("PitForge", "ground", "LPitForge$Ground;", true)
  | 1 => ("PitForge", "ore", "LPitForge$Ore;", true)
  | 2 => ("PitForge", "search", "LPitForge$PitSearch;", true)
  | 3 => ("PitForge", "phases", "LPitForge$Phases;", true)
  | 4 => ("PitForge", "numbers", "LPitForge$Numbers;", true)
  | 5 => ("PitForge", "pile", "LPitForge$Pile;", true)
  | 6 => ("PitForge", "plant", "LPitForge$Plant;", true)
  | 7 => ("PitForge", "sump", "LPitForge$Sump;", true)
  | _ => ("PitForge", "books", "LPitForge$Books;", true)
def tyX9 : Nat → FieldType := fun k => match k with
  | 0 => .object "PitForge$Ground"
  | 1 => .object "PitForge$Ore"
  | 2 => .object "PitForge$PitSearch"
  | 3 => .object "PitForge$Phases"
  | 4 => .object "PitForge$Numbers"
  | 5 => .object "PitForge$Pile"
  | 6 => .object "PitForge$Plant"
  | 7 => .object "PitForge$Sump"
  | _ => .object "PitForge$Books"
theorem nmX9 : ∀ a, a < 9 → ∀ b, b < 9 → a ≠ b → (TX9 a).2.1 ≠ (TX9 b).2.1 := by decide +kernel
theorem tyX9_ok : ∀ k, k < 9 → parseFieldDescriptor (TX9 k).2.2.1 = some (tyX9 k) := by decide +kernel
abbrev cX9_init : ByteArray := prog_1_method_1_code
def yX9_init : MethodName := ⟨RX9, "<init>", "()V"⟩
abbrev cX9_rock : ByteArray := prog_1_method_2_code
def yX9_rock : MethodName := ⟨RX9, "rock", "(IC)C"⟩
abbrev cX9_sample : ByteArray := prog_1_method_3_code
def yX9_sample : MethodName := ⟨RX9, "sample", "(II)I"⟩
abbrev cX9_tellTruth : ByteArray := prog_1_method_4_code
def yX9_tellTruth : MethodName := ⟨RX9, "tellTruth", "(II)I"⟩
abbrev cX9_grade : ByteArray := prog_1_method_5_code
def yX9_grade : MethodName := ⟨RX9, "grade", "(I)I"⟩
abbrev cX9_worth : ByteArray := prog_1_method_6_code
def yX9_worth : MethodName := ⟨RX9, "worth", "(II)I"⟩
abbrev cX9_isFree : ByteArray := prog_1_method_7_code
def yX9_isFree : MethodName := ⟨RX9, "isFree", "(I)Z"⟩
abbrev cX9_isDug : ByteArray := prog_1_method_8_code
def yX9_isDug : MethodName := ⟨RX9, "isDug", "(I)Z"⟩
abbrev cX9_pitWorth : ByteArray := prog_1_method_9_code
def yX9_pitWorth : MethodName := ⟨RX9, "pitWorth", "(I)J"⟩
abbrev cX9_pitSize : ByteArray := prog_1_method_10_code
def yX9_pitSize : MethodName := ⟨RX9, "pitSize", "(I)I"⟩
abbrev cX9_isInPit : ByteArray := prog_1_method_11_code
def yX9_isInPit : MethodName := ⟨RX9, "isInPit", "(II)Z"⟩
abbrev cX9_worthWith : ByteArray := prog_1_method_12_code
def yX9_worthWith : MethodName := ⟨RX9, "worthWith", "(II)J"⟩
abbrev cX9_phase : ByteArray := prog_1_method_13_code
def yX9_phase : MethodName := ⟨RX9, "phase", "(I)I"⟩
abbrev cX9_clearPhases : ByteArray := prog_1_method_14_code
def yX9_clearPhases : MethodName := ⟨RX9, "clearPhases", "()I"⟩
abbrev cX9_phaseOf : ByteArray := prog_1_method_15_code
def yX9_phaseOf : MethodName := ⟨RX9, "phaseOf", "(I)I"⟩
abbrev cX9_set : ByteArray := prog_1_method_16_code
def yX9_set : MethodName := ⟨RX9, "set", "(CI)I"⟩
abbrev cX9_mix : ByteArray := prog_1_method_17_code
def yX9_mix : MethodName := ⟨RX9, "mix", "(Z)Z"⟩
abbrev cX9_goOn : ByteArray := prog_1_method_18_code
def yX9_goOn : MethodName := ⟨RX9, "goOn", "(I)I"⟩
abbrev cX9_week : ByteArray := prog_1_method_19_code
def yX9_week : MethodName := ⟨RX9, "week", "()I"⟩
abbrev cX9_wentTo : ByteArray := prog_1_method_20_code
def yX9_wentTo : MethodName := ⟨RX9, "wentTo", "(I)C"⟩
abbrev cX9_dugIn : ByteArray := prog_1_method_21_code
def yX9_dugIn : MethodName := ⟨RX9, "dugIn", "(I)I"⟩
abbrev cX9_stock : ByteArray := prog_1_method_22_code
def yX9_stock : MethodName := ⟨RX9, "stock", "()I"⟩
abbrev cX9_stockGrades : ByteArray := prog_1_method_23_code
def yX9_stockGrades : MethodName := ⟨RX9, "stockGrades", "()I"⟩
abbrev cX9_water : ByteArray := prog_1_method_24_code
def yX9_water : MethodName := ⟨RX9, "water", "()I"⟩
abbrev cX9_recovery : ByteArray := prog_1_method_25_code
def yX9_recovery : MethodName := ⟨RX9, "recovery", "()I"⟩
abbrev cX9_metal : ByteArray := prog_1_method_26_code
def yX9_metal : MethodName := ⟨RX9, "metal", "()J"⟩
abbrev cX9_money : ByteArray := prog_1_method_27_code
def yX9_money : MethodName := ⟨RX9, "money", "()J"⟩
abbrev cX9_tons : ByteArray := prog_1_method_28_code
def yX9_tons : MethodName := ⟨RX9, "tons", "(C)I"⟩
abbrev cX9_factor : ByteArray := prog_1_method_29_code
def yX9_factor : MethodName := ⟨RX9, "factor", "()I"⟩
abbrev cX9_isBalanced : ByteArray := prog_1_method_30_code
def yX9_isBalanced : MethodName := ⟨RX9, "isBalanced", "()Z"⟩
abbrev cX9_dugShare : ByteArray := prog_1_method_31_code
def yX9_dugShare : MethodName := ⟨RX9, "dugShare", "()F"⟩
abbrev cX9_meanFed : ByteArray := prog_1_method_32_code
def yX9_meanFed : MethodName := ⟨RX9, "meanFed", "()D"⟩
abbrev cX9_passWeek : ByteArray := prog_1_method_33_code
def yX9_passWeek : MethodName := ⟨RX9, "passWeek", "()V"⟩
abbrev cX9_dryLevels : ByteArray := prog_1_method_34_code
def yX9_dryLevels : MethodName := ⟨RX9, "dryLevels", "()I"⟩
abbrev cX9_nextBlock : ByteArray := prog_1_method_35_code
def yX9_nextBlock : MethodName := ⟨RX9, "nextBlock", "(I)I"⟩
abbrev cX9_digOut : ByteArray := prog_1_method_36_code
def yX9_digOut : MethodName := ⟨RX9, "digOut", "(I)V"⟩
abbrev cX9_haul : ByteArray := prog_1_method_37_code
def yX9_haul : MethodName := ⟨RX9, "haul", "(II)V"⟩
abbrev cX9_feedFromPile : ByteArray := prog_1_method_38_code
def yX9_feedFromPile : MethodName := ⟨RX9, "feedFromPile", "()V"⟩
abbrev cX9_requireBlock : ByteArray := prog_1_method_39_code
def yX9_requireBlock : MethodName := ⟨RX9, "requireBlock", "(I)V"⟩
abbrev cX9_requireHundred : ByteArray := prog_1_method_40_code
def yX9_requireHundred : MethodName := ⟨RX9, "requireHundred", "(I)V"⟩
abbrev cX9_requireUndug : ByteArray := prog_1_method_41_code
def yX9_requireUndug : MethodName := ⟨RX9, "requireUndug", "(I)V"⟩
abbrev cX9_requireDug : ByteArray := prog_1_method_42_code
def yX9_requireDug : MethodName := ⟨RX9, "requireDug", "(I)V"⟩
abbrev cX9_isBlock : ByteArray := prog_1_method_43_code
def yX9_isBlock : MethodName := ⟨RX9, "isBlock", "(I)Z"⟩
abbrev cX9_diggingCost : ByteArray := prog_1_method_44_code
def yX9_diggingCost : MethodName := ⟨RX9, "diggingCost", "(I)I"⟩
abbrev cX9_toNearest : ByteArray := prog_1_method_45_code
def yX9_toNearest : MethodName := ⟨RX9, "toNearest", "(D)I"⟩
def RX10 : String := "PitForgeModel$Block"
def TX10 : u_T := fun k => match k with
  | 0 => ("PitForgeModel$Block", "isHard", "Z", false)
  | 1 => ("PitForgeModel$Block", "isDug", "Z", false)
  | 2 => ("PitForgeModel$Block", "truth", "I", false)
  | 3 => ("PitForgeModel$Block", "week", "I", false)
  | _ => ("PitForgeModel$Block", "went", "C", false)
def tyX10 : Nat → FieldType := fun k => match k with
  | 0 => .boolean
  | 1 => .boolean
  | 2 => .int
  | 3 => .int
  | _ => .char
theorem nmX10 : ∀ a, a < 5 → ∀ b, b < 5 → a ≠ b → (TX10 a).2.1 ≠ (TX10 b).2.1 := by decide +kernel
theorem tyX10_ok : ∀ k, k < 5 → parseFieldDescriptor (TX10 k).2.2.1 = some (tyX10 k) := by decide +kernel
abbrev cX10_init : ByteArray := prog_13_method_1_code
def yX10_init : MethodName := ⟨RX10, "<init>", "()V"⟩
def RX11 : String := "PitForgeModel$Flow"
def TX11 : u_T := fun k => match k with
  | 0 => ("PitForgeModel$Flow", "rooms", "[[I", true)
  | 1 => ("PitForgeModel$Flow", "isReached", "[Z", false)
  | _ => ("PitForgeModel$Flow", "this$0", "LPitForgeModel;", true)
def tyX11 : Nat → FieldType := fun k => match k with
  | 0 => .array (.array .int)
  | 1 => .array .boolean
  | _ => .object "PitForgeModel"
theorem nmX11 : ∀ a, a < 3 → ∀ b, b < 3 → a ≠ b → (TX11 a).2.1 ≠ (TX11 b).2.1 := by decide +kernel
theorem tyX11_ok : ∀ k, k < 3 → parseFieldDescriptor (TX11 k).2.2.1 = some (tyX11 k) := by decide +kernel
abbrev cX11_init : ByteArray := prog_14_method_1_code
def yX11_init : MethodName := ⟨RX11, "<init>", "(LPitForgeModel;I)V"⟩
abbrev cX11_way : ByteArray := prog_14_method_2_code
def yX11_way : MethodName := ⟨RX11, "way", "()[I"⟩
abbrev cX11_has : ByteArray := prog_14_method_3_code
def yX11_has : MethodName := ⟨RX11, "has", "(I)Z"⟩
def RX12 : String := "PitForgeModel$Sample"
def TX12 : u_T := fun k => match k with
  | 0 => ("PitForgeModel$Sample", "block", "I", true)
  | _ => ("PitForgeModel$Sample", "grade", "I", true)
def tyX12 : Nat → FieldType := fun k => match k with
  | 0 => .int
  | _ => .int
theorem nmX12 : ∀ a, a < 2 → ∀ b, b < 2 → a ≠ b → (TX12 a).2.1 ≠ (TX12 b).2.1 := by decide +kernel
theorem tyX12_ok : ∀ k, k < 2 → parseFieldDescriptor (TX12 k).2.2.1 = some (tyX12 k) := by decide +kernel
abbrev cX12_init : ByteArray := prog_15_method_1_code
def yX12_init : MethodName := ⟨RX12, "<init>", "(II)V"⟩
def RX13 : String := "PitForgeModel"
def TX13 : u_T := fun k => match k with
  | 0 => ("PitForgeModel", "thrown", "I", false)
  | 1 => ("PitForgeModel", "blocks", "Ljava/util/List;", true)
  | 2 => ("PitForgeModel", "samples", "Ljava/util/List;", true)
  | 3 => ("PitForgeModel", "phases", "Ljava/util/List;", true)
  | 4 => ("PitForgeModel", "stock", "Ljava/util/List;", true)
  | 5 => ("PitForgeModel", "told", "[I", true)
  | 6 => ("PitForgeModel", "mixes", "Z", false)
  | 7 => ("PitForgeModel", "hasFed", "Z", false)
  | 8 => ("PitForgeModel", "week", "I", false)
  | 9 => ("PitForgeModel", "water", "I", false)
  | 10 => ("PitForgeModel", "recovery", "I", false)
  | 11 => ("PitForgeModel", "trues", "I", false)
  | 12 => ("PitForgeModel", "models", "I", false)
  | 13 => ("PitForgeModel", "fed", "I", false)
  | 14 => ("PitForgeModel", "fedGrades", "I", false)
  | 15 => ("PitForgeModel", "dumped", "I", false)
  | 16 => ("PitForgeModel", "stocked", "I", false)
  | 17 => ("PitForgeModel", "stockSum", "I", false)
  | 18 => ("PitForgeModel", "heap", "I", false)
  | 19 => ("PitForgeModel", "heapSum", "I", false)
  | 20 => ("PitForgeModel", "lastMean", "D", false)
  | 21 => ("PitForgeModel", "metal", "J", false)
  | _ => ("PitForgeModel", "money", "J", false)
def tyX13 : Nat → FieldType := fun k => match k with
  | 0 => .int
  | 1 => .object "java/util/List"
  | 2 => .object "java/util/List"
  | 3 => .object "java/util/List"
  | 4 => .object "java/util/List"
  | 5 => .array .int
  | 6 => .boolean
  | 7 => .boolean
  | 8 => .int
  | 9 => .int
  | 10 => .int
  | 11 => .int
  | 12 => .int
  | 13 => .int
  | 14 => .int
  | 15 => .int
  | 16 => .int
  | 17 => .int
  | 18 => .int
  | 19 => .int
  | 20 => .double
  | 21 => .long
  | _ => .long
theorem nmX13 : ∀ a, a < 23 → ∀ b, b < 23 → a ≠ b → (TX13 a).2.1 ≠ (TX13 b).2.1 := by decide +kernel
theorem tyX13_ok : ∀ k, k < 23 → parseFieldDescriptor (TX13 k).2.2.1 = some (tyX13 k) := by decide +kernel
abbrev cX13_thrown : ByteArray := prog_12_method_1_code
def yX13_thrown : MethodName := ⟨RX13, "thrown", "()I"⟩
abbrev cX13_isWrong : ByteArray := prog_12_method_2_code
def yX13_isWrong : MethodName := ⟨RX13, "isWrong", "(I)Z"⟩
abbrev cX13_isBetween : ByteArray := prog_12_method_3_code
def yX13_isBetween : MethodName := ⟨RX13, "isBetween", "(III)Z"⟩
abbrev cX13_isBlock : ByteArray := prog_12_method_4_code
def yX13_isBlock : MethodName := ⟨RX13, "isBlock", "(I)Z"⟩
abbrev cX13_init : ByteArray := prog_12_method_5_code
def yX13_init : MethodName := ⟨RX13, "<init>", "()V"⟩
abbrev cX13_rock : ByteArray := prog_12_method_6_code
def yX13_rock : MethodName := ⟨RX13, "rock", "(IC)C"⟩
abbrev cX13_sample : ByteArray := prog_12_method_7_code
def yX13_sample : MethodName := ⟨RX13, "sample", "(II)I"⟩
abbrev cX13_tellTruth : ByteArray := prog_12_method_8_code
def yX13_tellTruth : MethodName := ⟨RX13, "tellTruth", "(II)I"⟩
abbrev cX13_gradeOf : ByteArray := prog_12_method_9_code
def yX13_gradeOf : MethodName := ⟨RX13, "gradeOf", "(I)I"⟩
abbrev cX13_grade : ByteArray := prog_12_method_10_code
def yX13_grade : MethodName := ⟨RX13, "grade", "(I)I"⟩
abbrev cX13_digging : ByteArray := prog_12_method_11_code
def yX13_digging : MethodName := ⟨RX13, "digging", "(I)I"⟩
abbrev cX13_worthOf : ByteArray := prog_12_method_12_code
def yX13_worthOf : MethodName := ⟨RX13, "worthOf", "(II)I"⟩
abbrev cX13_isPrice : ByteArray := prog_12_method_13_code
def yX13_isPrice : MethodName := ⟨RX13, "isPrice", "(I)Z"⟩
abbrev cX13_worth : ByteArray := prog_12_method_14_code
def yX13_worth : MethodName := ⟨RX13, "worth", "(II)I"⟩
abbrev cX13_above : ByteArray := prog_12_method_15_code
def yX13_above : MethodName := ⟨RX13, "above", "(I)Ljava/util/List;"⟩
abbrev cX13_liesFree : ByteArray := prog_12_method_16_code
def yX13_liesFree : MethodName := ⟨RX13, "liesFree", "(I)Z"⟩
abbrev cX13_isFree : ByteArray := prog_12_method_17_code
def yX13_isFree : MethodName := ⟨RX13, "isFree", "(I)Z"⟩
abbrev cX13_isDug : ByteArray := prog_12_method_18_code
def yX13_isDug : MethodName := ⟨RX13, "isDug", "(I)Z"⟩
abbrev cX13_pitWorth : ByteArray := prog_12_method_19_code
def yX13_pitWorth : MethodName := ⟨RX13, "pitWorth", "(I)J"⟩
abbrev cX13_pitSize : ByteArray := prog_12_method_20_code
def yX13_pitSize : MethodName := ⟨RX13, "pitSize", "(I)I"⟩
abbrev cX13_isInPit : ByteArray := prog_12_method_21_code
def yX13_isInPit : MethodName := ⟨RX13, "isInPit", "(II)Z"⟩
abbrev cX13_worthWith : ByteArray := prog_12_method_22_code
def yX13_worthWith : MethodName := ⟨RX13, "worthWith", "(II)J"⟩
abbrev cX13_phase : ByteArray := prog_12_method_23_code
def yX13_phase : MethodName := ⟨RX13, "phase", "(I)I"⟩
abbrev cX13_clearPhases : ByteArray := prog_12_method_24_code
def yX13_clearPhases : MethodName := ⟨RX13, "clearPhases", "()I"⟩
abbrev cX13_phasesNow : ByteArray := prog_12_method_25_code
def yX13_phasesNow : MethodName := ⟨RX13, "phasesNow", "()[I"⟩
abbrev cX13_phaseOf : ByteArray := prog_12_method_26_code
def yX13_phaseOf : MethodName := ⟨RX13, "phaseOf", "(I)I"⟩
abbrev cX13_set : ByteArray := prog_12_method_27_code
def yX13_set : MethodName := ⟨RX13, "set", "(CI)I"⟩
abbrev cX13_toldOf : ByteArray := prog_12_method_28_code
def yX13_toldOf : MethodName := ⟨RX13, "toldOf", "(C)I"⟩
abbrev cX13_mix : ByteArray := prog_12_method_29_code
def yX13_mix : MethodName := ⟨RX13, "mix", "(Z)Z"⟩
abbrev cX13_flooded : ByteArray := prog_12_method_30_code
def yX13_flooded : MethodName := ⟨RX13, "flooded", "()I"⟩
abbrev cX13_next : ByteArray := prog_12_method_31_code
def yX13_next : MethodName := ⟨RX13, "next", "(I[I)I"⟩
abbrev cX13_aWeek : ByteArray := prog_12_method_32_code
def yX13_aWeek : MethodName := ⟨RX13, "aWeek", "()V"⟩
abbrev cX13_digs : ByteArray := prog_12_method_33_code
def yX13_digs : MethodName := ⟨RX13, "digs", "(ILjava/util/List;I)V"⟩
abbrev cX13_given : ByteArray := prog_12_method_34_code
def yX13_given : MethodName := ⟨RX13, "given", "()I"⟩
abbrev cX13_mills : ByteArray := prog_12_method_35_code
def yX13_mills : MethodName := ⟨RX13, "mills", "(Ljava/util/List;)V"⟩
abbrev cX13_goOn : ByteArray := prog_12_method_36_code
def yX13_goOn : MethodName := ⟨RX13, "goOn", "(I)I"⟩
abbrev cX13_dug : ByteArray := prog_12_method_37_code
def yX13_dug : MethodName := ⟨RX13, "dug", "()I"⟩
abbrev cX13_week : ByteArray := prog_12_method_38_code
def yX13_week : MethodName := ⟨RX13, "week", "()I"⟩
abbrev cX13_isNotDug : ByteArray := prog_12_method_39_code
def yX13_isNotDug : MethodName := ⟨RX13, "isNotDug", "(I)Z"⟩
abbrev cX13_wentTo : ByteArray := prog_12_method_40_code
def yX13_wentTo : MethodName := ⟨RX13, "wentTo", "(I)C"⟩
abbrev cX13_dugIn : ByteArray := prog_12_method_41_code
def yX13_dugIn : MethodName := ⟨RX13, "dugIn", "(I)I"⟩
abbrev cX13_stock : ByteArray := prog_12_method_42_code
def yX13_stock : MethodName := ⟨RX13, "stock", "()I"⟩
abbrev cX13_stockGrades : ByteArray := prog_12_method_43_code
def yX13_stockGrades : MethodName := ⟨RX13, "stockGrades", "()I"⟩
abbrev cX13_water : ByteArray := prog_12_method_44_code
def yX13_water : MethodName := ⟨RX13, "water", "()I"⟩
abbrev cX13_recovery : ByteArray := prog_12_method_45_code
def yX13_recovery : MethodName := ⟨RX13, "recovery", "()I"⟩
abbrev cX13_metal : ByteArray := prog_12_method_46_code
def yX13_metal : MethodName := ⟨RX13, "metal", "()J"⟩
abbrev cX13_money : ByteArray := prog_12_method_47_code
def yX13_money : MethodName := ⟨RX13, "money", "()J"⟩
abbrev cX13_tons : ByteArray := prog_12_method_48_code
def yX13_tons : MethodName := ⟨RX13, "tons", "(C)I"⟩
abbrev cX13_factor : ByteArray := prog_12_method_49_code
def yX13_factor : MethodName := ⟨RX13, "factor", "()I"⟩
abbrev cX13_isBalanced : ByteArray := prog_12_method_50_code
def yX13_isBalanced : MethodName := ⟨RX13, "isBalanced", "()Z"⟩
abbrev cX13_dugShare : ByteArray := prog_12_method_51_code
def yX13_dugShare : MethodName := ⟨RX13, "dugShare", "()F"⟩
abbrev cX13_meanFed : ByteArray := prog_12_method_52_code
def yX13_meanFed : MethodName := ⟨RX13, "meanFed", "()D"⟩
def RJx145de : String := "java/io/Serializable"
def TJx145de : u_T := fun k => match k with
  | _ => ("", "", "", false)
def tyJx145de : Nat → FieldType := fun k => match k with
  | _ => .int
theorem nmJx145de : ∀ a, a < 0 → ∀ b, b < 0 → a ≠ b → (TJx145de a).2.1 ≠ (TJx145de b).2.1 := by decide +kernel
theorem tyJx145de_ok : ∀ k, k < 0 → parseFieldDescriptor (TJx145de k).2.2.1 = some (tyJx145de k) := by decide +kernel
def RJx00060 : String := "java/lang/ArrayIndexOutOfBoundsException"
def TJx00060 : u_T := fun k => match k with
  | 0 => ("java/lang/Throwable", "backtrace", "Ljava/lang/Object;", false)
  | 1 => ("java/lang/Throwable", "detailMessage", "Ljava/lang/String;", false)
  | 2 => ("java/lang/Throwable", "cause", "Ljava/lang/Throwable;", false)
  | 3 => ("java/lang/Throwable", "stackTrace", "[Ljava/lang/StackTraceElement;", false)
  | 4 => ("java/lang/Throwable", "depth", "I", false)
  | _ => ("java/lang/Throwable", "suppressedExceptions", "Ljava/util/List;", false)
def tyJx00060 : Nat → FieldType := fun k => match k with
  | 0 => .object "java/lang/Object"
  | 1 => .object "java/lang/String"
  | 2 => .object "java/lang/Throwable"
  | 3 => .array (.object "java/lang/StackTraceElement")
  | 4 => .int
  | _ => .object "java/util/List"
theorem nmJx00060 : ∀ a, a < 6 → ∀ b, b < 6 → a ≠ b → (TJx00060 a).2.1 ≠ (TJx00060 b).2.1 := by decide +kernel
theorem tyJx00060_ok : ∀ k, k < 6 → parseFieldDescriptor (TJx00060 k).2.2.1 = some (tyJx00060 k) := by decide +kernel
abbrev cJx00060_init_a7421 : ByteArray := prog_18_method_2_code
def yJx00060_init_a7421 : MethodName := ⟨RJx00060, "<init>", "(Ljava/lang/String;)V"⟩
def RJx9f9b0 : String := "java/lang/CharSequence"
def TJx9f9b0 : u_T := fun k => match k with
  | _ => ("", "", "", false)
def tyJx9f9b0 : Nat → FieldType := fun k => match k with
  | _ => .int
theorem nmJx9f9b0 : ∀ a, a < 0 → ∀ b, b < 0 → a ≠ b → (TJx9f9b0 a).2.1 ≠ (TJx9f9b0 b).2.1 := by decide +kernel
theorem tyJx9f9b0_ok : ∀ k, k < 0 → parseFieldDescriptor (TJx9f9b0 k).2.2.1 = some (tyJx9f9b0 k) := by decide +kernel
def RJ11 : String := "java/lang/Character"
def TJ11 : u_T := fun k => match k with
  | _ => ("", "", "", false)
def tyJ11 : Nat → FieldType := fun k => match k with
  | _ => .int
theorem nmJ11 : ∀ a, a < 0 → ∀ b, b < 0 → a ≠ b → (TJ11 a).2.1 ≠ (TJ11 b).2.1 := by decide +kernel
theorem tyJ11_ok : ∀ k, k < 0 → parseFieldDescriptor (TJ11 k).2.2.1 = some (tyJ11 k) := by decide +kernel
abbrev cJ11_isValidCodePoint_9a6ad : ByteArray := prog_20_method_11_code
def yJ11_isValidCodePoint_9a6ad : MethodName := ⟨RJ11, "isValidCodePoint", "(I)Z"⟩
abbrev cJ11_highSurrogate_5068e : ByteArray := prog_20_method_28_code
def yJ11_highSurrogate_5068e : MethodName := ⟨RJ11, "highSurrogate", "(I)C"⟩
abbrev cJ11_lowSurrogate_5068e : ByteArray := prog_20_method_29_code
def yJ11_lowSurrogate_5068e : MethodName := ⟨RJ11, "lowSurrogate", "(I)C"⟩
def RJx8e188 : String := "java/lang/Cloneable"
def TJx8e188 : u_T := fun k => match k with
  | _ => ("", "", "", false)
def tyJx8e188 : Nat → FieldType := fun k => match k with
  | _ => .int
theorem nmJx8e188 : ∀ a, a < 0 → ∀ b, b < 0 → a ≠ b → (TJx8e188 a).2.1 ≠ (TJx8e188 b).2.1 := by decide +kernel
theorem tyJx8e188_ok : ∀ k, k < 0 → parseFieldDescriptor (TJx8e188 k).2.2.1 = some (tyJx8e188 k) := by decide +kernel
def RJxb160c : String := "java/lang/Comparable"
def TJxb160c : u_T := fun k => match k with
  | _ => ("", "", "", false)
def tyJxb160c : Nat → FieldType := fun k => match k with
  | _ => .int
theorem nmJxb160c : ∀ a, a < 0 → ∀ b, b < 0 → a ≠ b → (TJxb160c a).2.1 ≠ (TJxb160c b).2.1 := by decide +kernel
theorem tyJxb160c_ok : ∀ k, k < 0 → parseFieldDescriptor (TJxb160c k).2.2.1 = some (tyJxb160c k) := by decide +kernel
def RJxe99ae : String := "java/lang/Double"
def TJxe99ae : u_T := fun k => match k with
  | _ => ("", "", "", false)
def tyJxe99ae : Nat → FieldType := fun k => match k with
  | _ => .int
theorem nmJxe99ae : ∀ a, a < 0 → ∀ b, b < 0 → a ≠ b → (TJxe99ae a).2.1 ≠ (TJxe99ae b).2.1 := by decide +kernel
theorem tyJxe99ae_ok : ∀ k, k < 0 → parseFieldDescriptor (TJxe99ae k).2.2.1 = some (tyJxe99ae k) := by decide +kernel
def RJxabbfe : String := "java/lang/Integer$IntegerCache"
def TJxabbfe : u_T := fun k => match k with
  | _ => ("", "", "", false)
def tyJxabbfe : Nat → FieldType := fun k => match k with
  | _ => .int
theorem nmJxabbfe : ∀ a, a < 0 → ∀ b, b < 0 → a ≠ b → (TJxabbfe a).2.1 ≠ (TJxabbfe b).2.1 := by decide +kernel
theorem tyJxabbfe_ok : ∀ k, k < 0 → parseFieldDescriptor (TJxabbfe k).2.2.1 = some (tyJxabbfe k) := by decide +kernel
def RJ6 : String := "java/lang/Integer"
def TJ6 : u_T := fun k => match k with
  | _ => ("java/lang/Integer", "value", "I", true)
def tyJ6 : Nat → FieldType := fun k => match k with
  | _ => .int
theorem nmJ6 : ∀ a, a < 1 → ∀ b, b < 1 → a ≠ b → (TJ6 a).2.1 ≠ (TJ6 b).2.1 := by decide +kernel
theorem tyJ6_ok : ∀ k, k < 1 → parseFieldDescriptor (TJ6 k).2.2.1 = some (tyJ6 k) := by decide +kernel
abbrev cJ6_valueOf_2dffe : ByteArray := prog_28_method_22_code
def yJ6_valueOf_2dffe : MethodName := ⟨RJ6, "valueOf", "(I)Ljava/lang/Integer;"⟩
abbrev cJ6_init_d00df : ByteArray := prog_28_method_23_code
def yJ6_init_d00df : MethodName := ⟨RJ6, "<init>", "(I)V"⟩
abbrev cJ6_intValue_8abf5 : ByteArray := prog_28_method_27_code
def yJ6_intValue_8abf5 : MethodName := ⟨RJ6, "intValue", "()I"⟩
def RJxab1ab : String := "java/lang/Iterable"
def TJxab1ab : u_T := fun k => match k with
  | _ => ("", "", "", false)
def tyJxab1ab : Nat → FieldType := fun k => match k with
  | _ => .int
theorem nmJxab1ab : ∀ a, a < 0 → ∀ b, b < 0 → a ≠ b → (TJxab1ab a).2.1 ≠ (TJxab1ab b).2.1 := by decide +kernel
theorem tyJxab1ab_ok : ∀ k, k < 0 → parseFieldDescriptor (TJxab1ab k).2.2.1 = some (tyJxab1ab k) := by decide +kernel
def RJ9 : String := "java/lang/Math"
def TJ9 : u_T := fun k => match k with
  | _ => ("", "", "", false)
def tyJ9 : Nat → FieldType := fun k => match k with
  | _ => .int
theorem nmJ9 : ∀ a, a < 0 → ∀ b, b < 0 → a ≠ b → (TJ9 a).2.1 ≠ (TJ9 b).2.1 := by decide +kernel
theorem tyJ9_ok : ∀ k, k < 0 → parseFieldDescriptor (TJ9 k).2.2.1 = some (tyJ9 k) := by decide +kernel
abbrev cJ9_rint_294c1 : ByteArray := prog_31_method_18_code
def yJ9_rint_294c1 : MethodName := ⟨RJ9, "rint", "(D)D"⟩
abbrev cJ9_abs_294c1 : ByteArray := prog_31_method_64_code
def yJ9_abs_294c1 : MethodName := ⟨RJ9, "abs", "(D)D"⟩
abbrev cJ9_max_7cf53 : ByteArray := prog_31_method_65_code
def yJ9_max_7cf53 : MethodName := ⟨RJ9, "max", "(II)I"⟩
abbrev cJ9_max_eb370 : ByteArray := prog_31_method_68_code
def yJ9_max_eb370 : MethodName := ⟨RJ9, "max", "(DD)D"⟩
abbrev cJ9_min_7cf53 : ByteArray := prog_31_method_69_code
def yJ9_min_7cf53 : MethodName := ⟨RJ9, "min", "(II)I"⟩
abbrev cJ9_copySign_eb370 : ByteArray := prog_31_method_89_code
def yJ9_copySign_eb370 : MethodName := ⟨RJ9, "copySign", "(DD)D"⟩
def RJxd2413 : String := "java/lang/Number"
def TJxd2413 : u_T := fun k => match k with
  | _ => ("", "", "", false)
def tyJxd2413 : Nat → FieldType := fun k => match k with
  | _ => .int
theorem nmJxd2413 : ∀ a, a < 0 → ∀ b, b < 0 → a ≠ b → (TJxd2413 a).2.1 ≠ (TJxd2413 b).2.1 := by decide +kernel
theorem tyJxd2413_ok : ∀ k, k < 0 → parseFieldDescriptor (TJxd2413 k).2.2.1 = some (tyJxd2413 k) := by decide +kernel
abbrev cJxd2413_init_da8c8 : ByteArray := prog_32_method_1_code
def yJxd2413_init_da8c8 : MethodName := ⟨RJxd2413, "<init>", "()V"⟩
def RJxfc994 : String := "java/lang/StrictMath"
def TJxfc994 : u_T := fun k => match k with
  | _ => ("", "", "", false)
def tyJxfc994 : Nat → FieldType := fun k => match k with
  | _ => .int
theorem nmJxfc994 : ∀ a, a < 0 → ∀ b, b < 0 → a ≠ b → (TJxfc994 a).2.1 ≠ (TJxfc994 b).2.1 := by decide +kernel
theorem tyJxfc994_ok : ∀ k, k < 0 → parseFieldDescriptor (TJxfc994 k).2.2.1 = some (tyJxfc994 k) := by decide +kernel
abbrev cJxfc994_rint_294c1 : ByteArray := prog_34_method_19_code
def yJxfc994_rint_294c1 : MethodName := ⟨RJxfc994, "rint", "(D)D"⟩
def RJ0 : String := "java/lang/String"
def TJ0 : u_T := fun k => match k with
  | 0 => ("java/lang/String", "value", "[B", true)
  | _ => ("java/lang/String", "coder", "B", true)
def tyJ0 : Nat → FieldType := fun k => match k with
  | 0 => .array .byte
  | _ => .byte
theorem nmJ0 : ∀ a, a < 2 → ∀ b, b < 2 → a ≠ b → (TJ0 a).2.1 ≠ (TJ0 b).2.1 := by decide +kernel
theorem tyJ0_ok : ∀ k, k < 2 → parseFieldDescriptor (TJ0 k).2.2.1 = some (tyJ0 k) := by decide +kernel
abbrev cJ0_length_8abf5 : ByteArray := prog_35_method_54_code
def yJ0_length_8abf5 : MethodName := ⟨RJ0, "length", "()I"⟩
abbrev cJ0_indexOf_0f7a4 : ByteArray := prog_35_method_79_code
def yJ0_indexOf_0f7a4 : MethodName := ⟨RJ0, "indexOf", "(I)I"⟩
abbrev cJ0_indexOf_7cf53 : ByteArray := prog_35_method_80_code
def yJ0_indexOf_7cf53 : MethodName := ⟨RJ0, "indexOf", "(II)I"⟩
abbrev cJ0_coder_7d493 : ByteArray := prog_35_method_152_code
def yJ0_coder_7d493 : MethodName := ⟨RJ0, "coder", "()B"⟩
abbrev cJ0_isLatin1_aae02 : ByteArray := prog_35_method_154_code
def yJ0_isLatin1_aae02 : MethodName := ⟨RJ0, "isLatin1", "()Z"⟩
abbrev cJ0_checkBoundsBeginEnd_23922 : ByteArray := prog_35_method_158_code
def yJ0_checkBoundsBeginEnd_23922 : MethodName := ⟨RJ0, "checkBoundsBeginEnd", "(III)V"⟩
def RJ1 : String := "java/lang/StringLatin1"
def TJ1 : u_T := fun k => match k with
  | _ => ("", "", "", false)
def tyJ1 : Nat → FieldType := fun k => match k with
  | _ => .int
theorem nmJ1 : ∀ a, a < 0 → ∀ b, b < 0 → a ≠ b → (TJ1 a).2.1 ≠ (TJ1 b).2.1 := by decide +kernel
theorem tyJ1_ok : ∀ k, k < 0 → parseFieldDescriptor (TJ1 k).2.2.1 = some (tyJ1 k) := by decide +kernel
abbrev cJ1_canEncode_9a6ad : ByteArray := prog_36_method_4_code
def yJ1_canEncode_9a6ad : MethodName := ⟨RJ1, "canEncode", "(I)Z"⟩
abbrev cJ1_indexOf_4cfef : ByteArray := prog_36_method_22_code
def yJ1_indexOf_4cfef : MethodName := ⟨RJ1, "indexOf", "([BIII)I"⟩
abbrev cJ1_indexOfChar_4cfef : ByteArray := prog_36_method_23_code
def yJ1_indexOfChar_4cfef : MethodName := ⟨RJ1, "indexOfChar", "([BIII)I"⟩
def RJ2 : String := "java/lang/StringUTF16"
def TJ2 : u_T := fun k => match k with
  | _ => ("", "", "", false)
def tyJ2 : Nat → FieldType := fun k => match k with
  | _ => .int
theorem nmJ2 : ∀ a, a < 0 → ∀ b, b < 0 → a ≠ b → (TJ2 a).2.1 ≠ (TJ2 b).2.1 := by decide +kernel
theorem tyJ2_ok : ∀ k, k < 0 → parseFieldDescriptor (TJ2 k).2.2.1 = some (tyJ2 k) := by decide +kernel
abbrev cJ2_getChar_3b067 : ByteArray := prog_37_method_5_code
def yJ2_getChar_3b067 : MethodName := ⟨RJ2, "getChar", "([BI)C"⟩
abbrev cJ2_length_9d52b : ByteArray := prog_37_method_6_code
def yJ2_length_9d52b : MethodName := ⟨RJ2, "length", "([B)I"⟩
abbrev cJ2_indexOf_4cfef : ByteArray := prog_37_method_40_code
def yJ2_indexOf_4cfef : MethodName := ⟨RJ2, "indexOf", "([BIII)I"⟩
abbrev cJ2_indexOfChar_4cfef : ByteArray := prog_37_method_47_code
def yJ2_indexOfChar_4cfef : MethodName := ⟨RJ2, "indexOfChar", "([BIII)I"⟩
abbrev cJ2_indexOfCharUnsafe_4cfef : ByteArray := prog_37_method_48_code
def yJ2_indexOfCharUnsafe_4cfef : MethodName := ⟨RJ2, "indexOfCharUnsafe", "([BIII)I"⟩
abbrev cJ2_indexOfSupplementary_4cfef : ByteArray := prog_37_method_49_code
def yJ2_indexOfSupplementary_4cfef : MethodName := ⟨RJ2, "indexOfSupplementary", "([BIII)I"⟩
abbrev cJ2_checkBoundsBeginEnd_d044e : ByteArray := prog_37_method_93_code
def yJ2_checkBoundsBeginEnd_d044e : MethodName := ⟨RJ2, "checkBoundsBeginEnd", "(II[B)V"⟩
def RJ10 : String := "java/lang/System"
def TJ10 : u_T := fun k => match k with
  | _ => ("", "", "", false)
def tyJ10 : Nat → FieldType := fun k => match k with
  | _ => .int
theorem nmJ10 : ∀ a, a < 0 → ∀ b, b < 0 → a ≠ b → (TJ10 a).2.1 ≠ (TJ10 b).2.1 := by decide +kernel
theorem tyJ10_ok : ∀ k, k < 0 → parseFieldDescriptor (TJ10 k).2.2.1 = some (tyJ10 k) := by decide +kernel
def RJxfd54e : String := "java/lang/constant/Constable"
def TJxfd54e : u_T := fun k => match k with
  | _ => ("", "", "", false)
def tyJxfd54e : Nat → FieldType := fun k => match k with
  | _ => .int
theorem nmJxfd54e : ∀ a, a < 0 → ∀ b, b < 0 → a ≠ b → (TJxfd54e a).2.1 ≠ (TJxfd54e b).2.1 := by decide +kernel
theorem tyJxfd54e_ok : ∀ k, k < 0 → parseFieldDescriptor (TJxfd54e k).2.2.1 = some (tyJxfd54e k) := by decide +kernel
def RJx3cf43 : String := "java/lang/constant/ConstantDesc"
def TJx3cf43 : u_T := fun k => match k with
  | _ => ("", "", "", false)
def tyJx3cf43 : Nat → FieldType := fun k => match k with
  | _ => .int
theorem nmJx3cf43 : ∀ a, a < 0 → ∀ b, b < 0 → a ≠ b → (TJx3cf43 a).2.1 ≠ (TJx3cf43 b).2.1 := by decide +kernel
theorem tyJx3cf43_ok : ∀ k, k < 0 → parseFieldDescriptor (TJx3cf43 k).2.2.1 = some (tyJx3cf43 k) := by decide +kernel
def RJxa1e45 : String := "java/util/AbstractCollection"
def TJxa1e45 : u_T := fun k => match k with
  | _ => ("", "", "", false)
def tyJxa1e45 : Nat → FieldType := fun k => match k with
  | _ => .int
theorem nmJxa1e45 : ∀ a, a < 0 → ∀ b, b < 0 → a ≠ b → (TJxa1e45 a).2.1 ≠ (TJxa1e45 b).2.1 := by decide +kernel
theorem tyJxa1e45_ok : ∀ k, k < 0 → parseFieldDescriptor (TJxa1e45 k).2.2.1 = some (tyJxa1e45 k) := by decide +kernel
abbrev cJxa1e45_init_da8c8 : ByteArray := prog_43_method_1_code
def yJxa1e45_init_da8c8 : MethodName := ⟨RJxa1e45, "<init>", "()V"⟩
def RJxc12de : String := "java/util/AbstractList"
def TJxc12de : u_T := fun k => match k with
  | _ => ("", "", "", false)
def tyJxc12de : Nat → FieldType := fun k => match k with
  | _ => .int
theorem nmJxc12de : ∀ a, a < 0 → ∀ b, b < 0 → a ≠ b → (TJxc12de a).2.1 ≠ (TJxc12de b).2.1 := by decide +kernel
theorem tyJxc12de_ok : ∀ k, k < 0 → parseFieldDescriptor (TJxc12de k).2.2.1 = some (tyJxc12de k) := by decide +kernel
abbrev cJxc12de_init_da8c8 : ByteArray := prog_44_method_1_code
def yJxc12de_init_da8c8 : MethodName := ⟨RJxc12de, "<init>", "()V"⟩
def RJx35411 : String := "java/util/ArrayList$Itr"
def TJx35411 : u_T := fun k => match k with
  | 0 => ("java/util/ArrayList$Itr", "cursor", "I", false)
  | 1 => ("java/util/ArrayList$Itr", "lastRet", "I", false)
  | 2 => ("java/util/ArrayList$Itr", "expectedModCount", "I", false)
  | _ => ("java/util/ArrayList$Itr", "this$0", "Ljava/util/ArrayList;", true)
def tyJx35411 : Nat → FieldType := fun k => match k with
  | 0 => .int
  | 1 => .int
  | 2 => .int
  | _ => .object "java/util/ArrayList"
theorem nmJx35411 : ∀ a, a < 4 → ∀ b, b < 4 → a ≠ b → (TJx35411 a).2.1 ≠ (TJx35411 b).2.1 := by decide +kernel
theorem tyJx35411_ok : ∀ k, k < 4 → parseFieldDescriptor (TJx35411 k).2.2.1 = some (tyJx35411 k) := by decide +kernel
abbrev cJx35411_init_45d68 : ByteArray := prog_46_method_1_code
def yJx35411_init_45d68 : MethodName := ⟨RJx35411, "<init>", "(Ljava/util/ArrayList;)V"⟩
abbrev cJx35411_hasNext_aae02 : ByteArray := prog_46_method_2_code
def yJx35411_hasNext_aae02 : MethodName := ⟨RJx35411, "hasNext", "()Z"⟩
abbrev cJx35411_next_0502b : ByteArray := prog_46_method_3_code
def yJx35411_next_0502b : MethodName := ⟨RJx35411, "next", "()Ljava/lang/Object;"⟩
abbrev cJx35411_checkForComodification_da8c8 : ByteArray := prog_46_method_6_code
def yJx35411_checkForComodification_da8c8 : MethodName := ⟨RJx35411, "checkForComodification", "()V"⟩
def RJx4a65c : String := "java/util/ArrayList"
def TJx4a65c : u_T := fun k => match k with
  | 0 => ("java/util/AbstractList", "modCount", "I", false)
  | 1 => ("java/util/ArrayList", "elementData", "[Ljava/lang/Object;", false)
  | _ => ("java/util/ArrayList", "size", "I", false)
def tyJx4a65c : Nat → FieldType := fun k => match k with
  | 0 => .int
  | 1 => .array (.object "java/lang/Object")
  | _ => .int
theorem nmJx4a65c : ∀ a, a < 3 → ∀ b, b < 3 → a ≠ b → (TJx4a65c a).2.1 ≠ (TJx4a65c b).2.1 := by decide +kernel
theorem tyJx4a65c_ok : ∀ k, k < 3 → parseFieldDescriptor (TJx4a65c k).2.2.1 = some (tyJx4a65c k) := by decide +kernel
abbrev cJx4a65c_init_da8c8 : ByteArray := prog_45_method_2_code
def yJx4a65c_init_da8c8 : MethodName := ⟨RJx4a65c, "<init>", "()V"⟩
abbrev cJx4a65c_grow_92f84 : ByteArray := prog_45_method_6_code
def yJx4a65c_grow_92f84 : MethodName := ⟨RJx4a65c, "grow", "(I)[Ljava/lang/Object;"⟩
abbrev cJx4a65c_grow_d5877 : ByteArray := prog_45_method_7_code
def yJx4a65c_grow_d5877 : MethodName := ⟨RJx4a65c, "grow", "()[Ljava/lang/Object;"⟩
abbrev cJx4a65c_size_8abf5 : ByteArray := prog_45_method_8_code
def yJx4a65c_size_8abf5 : MethodName := ⟨RJx4a65c, "size", "()I"⟩
abbrev cJx4a65c_isEmpty_aae02 : ByteArray := prog_45_method_9_code
def yJx4a65c_isEmpty_aae02 : MethodName := ⟨RJx4a65c, "isEmpty", "()Z"⟩
abbrev cJx4a65c_elementData_915e3 : ByteArray := prog_45_method_18_code
def yJx4a65c_elementData_915e3 : MethodName := ⟨RJx4a65c, "elementData", "(I)Ljava/lang/Object;"⟩
abbrev cJx4a65c_get_915e3 : ByteArray := prog_45_method_20_code
def yJx4a65c_get_915e3 : MethodName := ⟨RJx4a65c, "get", "(I)Ljava/lang/Object;"⟩
abbrev cJx4a65c_add_72be8 : ByteArray := prog_45_method_24_code
def yJx4a65c_add_72be8 : MethodName := ⟨RJx4a65c, "add", "(Ljava/lang/Object;[Ljava/lang/Object;I)V"⟩
abbrev cJx4a65c_add_9ea2d : ByteArray := prog_45_method_25_code
def yJx4a65c_add_9ea2d : MethodName := ⟨RJx4a65c, "add", "(Ljava/lang/Object;)Z"⟩
abbrev cJx4a65c_remove_915e3 : ByteArray := prog_45_method_29_code
def yJx4a65c_remove_915e3 : MethodName := ⟨RJx4a65c, "remove", "(I)Ljava/lang/Object;"⟩
abbrev cJx4a65c_fastRemove_b59b0 : ByteArray := prog_45_method_39_code
def yJx4a65c_fastRemove_b59b0 : MethodName := ⟨RJx4a65c, "fastRemove", "([Ljava/lang/Object;I)V"⟩
abbrev cJx4a65c_clear_da8c8 : ByteArray := prog_45_method_40_code
def yJx4a65c_clear_da8c8 : MethodName := ⟨RJx4a65c, "clear", "()V"⟩
abbrev cJx4a65c_iterator_32c93 : ByteArray := prog_45_method_55_code
def yJx4a65c_iterator_32c93 : MethodName := ⟨RJx4a65c, "iterator", "()Ljava/util/Iterator;"⟩
def RJ7 : String := "java/util/Arrays"
def TJ7 : u_T := fun k => match k with
  | _ => ("", "", "", false)
def tyJ7 : Nat → FieldType := fun k => match k with
  | _ => .int
theorem nmJ7 : ∀ a, a < 0 → ∀ b, b < 0 → a ≠ b → (TJ7 a).2.1 ≠ (TJ7 b).2.1 := by decide +kernel
theorem tyJ7_ok : ∀ k, k < 0 → parseFieldDescriptor (TJ7 k).2.2.1 = some (tyJ7 k) := by decide +kernel
abbrev cJ7_fill_53178 : ByteArray := prog_47_method_103_code
def yJ7_fill_53178 : MethodName := ⟨RJ7, "fill", "([II)V"⟩
abbrev cJ7_copyOf_1904c : ByteArray := prog_47_method_119_code
def yJ7_copyOf_1904c : MethodName := ⟨RJ7, "copyOf", "([Ljava/lang/Object;I)[Ljava/lang/Object;"⟩
abbrev cJ7_copyOf_6403c : ByteArray := prog_47_method_120_code
def yJ7_copyOf_6403c : MethodName := ⟨RJ7, "copyOf", "([Ljava/lang/Object;ILjava/lang/Class;)[Ljava/lang/Object;"⟩
def RJx5ef63 : String := "java/util/Collection"
def TJx5ef63 : u_T := fun k => match k with
  | _ => ("", "", "", false)
def tyJx5ef63 : Nat → FieldType := fun k => match k with
  | _ => .int
theorem nmJx5ef63 : ∀ a, a < 0 → ∀ b, b < 0 → a ≠ b → (TJx5ef63 a).2.1 ≠ (TJx5ef63 b).2.1 := by decide +kernel
theorem tyJx5ef63_ok : ∀ k, k < 0 → parseFieldDescriptor (TJx5ef63 k).2.2.1 = some (tyJx5ef63 k) := by decide +kernel
def RJx4d0d8 : String := "java/util/Iterator"
def TJx4d0d8 : u_T := fun k => match k with
  | _ => ("", "", "", false)
def tyJx4d0d8 : Nat → FieldType := fun k => match k with
  | _ => .int
theorem nmJx4d0d8 : ∀ a, a < 0 → ∀ b, b < 0 → a ≠ b → (TJx4d0d8 a).2.1 ≠ (TJx4d0d8 b).2.1 := by decide +kernel
theorem tyJx4d0d8_ok : ∀ k, k < 0 → parseFieldDescriptor (TJx4d0d8 k).2.2.1 = some (tyJx4d0d8 k) := by decide +kernel
def RJxbd725 : String := "java/util/List"
def TJxbd725 : u_T := fun k => match k with
  | _ => ("", "", "", false)
def tyJxbd725 : Nat → FieldType := fun k => match k with
  | _ => .int
theorem nmJxbd725 : ∀ a, a < 0 → ∀ b, b < 0 → a ≠ b → (TJxbd725 a).2.1 ≠ (TJxbd725 b).2.1 := by decide +kernel
theorem tyJxbd725_ok : ∀ k, k < 0 → parseFieldDescriptor (TJxbd725 k).2.2.1 = some (tyJxbd725 k) := by decide +kernel
def RJ15 : String := "java/util/Objects"
def TJ15 : u_T := fun k => match k with
  | _ => ("", "", "", false)
def tyJ15 : Nat → FieldType := fun k => match k with
  | _ => .int
theorem nmJ15 : ∀ a, a < 0 → ∀ b, b < 0 → a ≠ b → (TJ15 a).2.1 ≠ (TJ15 b).2.1 := by decide +kernel
theorem tyJ15_ok : ∀ k, k < 0 → parseFieldDescriptor (TJ15 k).2.2.1 = some (tyJ15 k) := by decide +kernel
abbrev cJ15_checkIndex_7cf53 : ByteArray := prog_52_method_17_code
def yJ15_checkIndex_7cf53 : MethodName := ⟨RJ15, "checkIndex", "(II)I"⟩
def RJxf0a74 : String := "java/util/RandomAccess"
def TJxf0a74 : u_T := fun k => match k with
  | _ => ("", "", "", false)
def tyJxf0a74 : Nat → FieldType := fun k => match k with
  | _ => .int
theorem nmJxf0a74 : ∀ a, a < 0 → ∀ b, b < 0 → a ≠ b → (TJxf0a74 a).2.1 ≠ (TJxf0a74 b).2.1 := by decide +kernel
theorem tyJxf0a74_ok : ∀ k, k < 0 → parseFieldDescriptor (TJxf0a74 k).2.2.1 = some (tyJxf0a74 k) := by decide +kernel
def RJxa66e6 : String := "java/util/SequencedCollection"
def TJxa66e6 : u_T := fun k => match k with
  | _ => ("", "", "", false)
def tyJxa66e6 : Nat → FieldType := fun k => match k with
  | _ => .int
theorem nmJxa66e6 : ∀ a, a < 0 → ∀ b, b < 0 → a ≠ b → (TJxa66e6 a).2.1 ≠ (TJxa66e6 b).2.1 := by decide +kernel
theorem tyJxa66e6_ok : ∀ k, k < 0 → parseFieldDescriptor (TJxa66e6 k).2.2.1 = some (tyJxa66e6 k) := by decide +kernel
def RJ8 : String := "jdk/internal/util/ArraysSupport"
def TJ8 : u_T := fun k => match k with
  | _ => ("", "", "", false)
def tyJ8 : Nat → FieldType := fun k => match k with
  | _ => .int
theorem nmJ8 : ∀ a, a < 0 → ∀ b, b < 0 → a ≠ b → (TJ8 a).2.1 ≠ (TJ8 b).2.1 := by decide +kernel
theorem tyJ8_ok : ∀ k, k < 0 → parseFieldDescriptor (TJ8 k).2.2.1 = some (tyJ8 k) := by decide +kernel
abbrev cJ8_newLength_cabcc : ByteArray := prog_55_method_27_code
def yJ8_newLength_cabcc : MethodName := ⟨RJ8, "newLength", "(III)I"⟩
abbrev cJ8_hugeLength_7cf53 : ByteArray := prog_55_method_28_code
def yJ8_hugeLength_7cf53 : MethodName := ⟨RJ8, "hugeLength", "(II)I"⟩
def RJ3 : String := "jdk/internal/util/Preconditions"
def TJ3 : u_T := fun k => match k with
  | _ => ("", "", "", false)
def tyJ3 : Nat → FieldType := fun k => match k with
  | _ => .int
theorem nmJ3 : ∀ a, a < 0 → ∀ b, b < 0 → a ≠ b → (TJ3 a).2.1 ≠ (TJ3 b).2.1 := by decide +kernel
theorem tyJ3_ok : ∀ k, k < 0 → parseFieldDescriptor (TJ3 k).2.2.1 = some (tyJ3 k) := by decide +kernel
abbrev cJ3_checkIndex_8e157 : ByteArray := prog_56_method_11_code
def yJ3_checkIndex_8e157 : MethodName := ⟨RJ3, "checkIndex", "(IILjava/util/function/BiFunction;)I"⟩
abbrev cJ3_checkFromToIndex_8c36e : ByteArray := prog_56_method_12_code
def yJ3_checkFromToIndex_8c36e : MethodName := ⟨RJ3, "checkFromToIndex", "(IIILjava/util/function/BiFunction;)I"⟩
def RL : String := "PitForgeLaw"
abbrev cL_rock : ByteArray := method_3_code
def yL_rock : MethodName := ⟨RL, "rock", "(LPitForge;IC[J)I"⟩
abbrev cL_sample : ByteArray := method_4_code
def yL_sample : MethodName := ⟨RL, "sample", "(LPitForge;II[J)I"⟩
abbrev cL_tellTruth : ByteArray := method_5_code
def yL_tellTruth : MethodName := ⟨RL, "tellTruth", "(LPitForge;II[J)I"⟩
abbrev cL_grade : ByteArray := method_6_code
def yL_grade : MethodName := ⟨RL, "grade", "(LPitForge;I[J)I"⟩
abbrev cL_worth : ByteArray := method_7_code
def yL_worth : MethodName := ⟨RL, "worth", "(LPitForge;II[J)I"⟩
abbrev cL_isFree : ByteArray := method_8_code
def yL_isFree : MethodName := ⟨RL, "isFree", "(LPitForge;I[J)I"⟩
abbrev cL_isDug : ByteArray := method_9_code
def yL_isDug : MethodName := ⟨RL, "isDug", "(LPitForge;I[J)I"⟩
abbrev cL_pitWorth : ByteArray := method_10_code
def yL_pitWorth : MethodName := ⟨RL, "pitWorth", "(LPitForge;I[J)I"⟩
abbrev cL_pitSize : ByteArray := method_11_code
def yL_pitSize : MethodName := ⟨RL, "pitSize", "(LPitForge;I[J)I"⟩
abbrev cL_isInPit : ByteArray := method_12_code
def yL_isInPit : MethodName := ⟨RL, "isInPit", "(LPitForge;II[J)I"⟩
abbrev cL_worthWith : ByteArray := method_13_code
def yL_worthWith : MethodName := ⟨RL, "worthWith", "(LPitForge;II[J)I"⟩
abbrev cL_phase : ByteArray := method_14_code
def yL_phase : MethodName := ⟨RL, "phase", "(LPitForge;I[J)I"⟩
abbrev cL_phaseOf : ByteArray := method_15_code
def yL_phaseOf : MethodName := ⟨RL, "phaseOf", "(LPitForge;I[J)I"⟩
abbrev cL_set : ByteArray := method_16_code
def yL_set : MethodName := ⟨RL, "set", "(LPitForge;CI[J)I"⟩
abbrev cL_goOn : ByteArray := method_17_code
def yL_goOn : MethodName := ⟨RL, "goOn", "(LPitForge;I[J)I"⟩
abbrev cL_wentTo : ByteArray := method_18_code
def yL_wentTo : MethodName := ⟨RL, "wentTo", "(LPitForge;I[J)I"⟩
abbrev cL_dugIn : ByteArray := method_19_code
def yL_dugIn : MethodName := ⟨RL, "dugIn", "(LPitForge;I[J)I"⟩
abbrev cL_recovery : ByteArray := method_20_code
def yL_recovery : MethodName := ⟨RL, "recovery", "(LPitForge;[J)I"⟩
abbrev cL_tons : ByteArray := method_21_code
def yL_tons : MethodName := ⟨RL, "tons", "(LPitForge;C[J)I"⟩
abbrev cL_factor : ByteArray := method_22_code
def yL_factor : MethodName := ⟨RL, "factor", "(LPitForge;[J)I"⟩
abbrev cL_meanFed : ByteArray := method_23_code
def yL_meanFed : MethodName := ⟨RL, "meanFed", "(LPitForge;[D)I"⟩
abbrev cL_law : ByteArray := code
def yL_law : MethodName := ⟨RL, "law", "([I)Z"⟩
theorem dX0_init_0 : decode cX0_init 0 = .ok (.aload_n 0, 1) := by decide +kernel
theorem dX0_init_1 : decode cX0_init 1 = .ok (.invokespecial 3, 3) := by decide +kernel
theorem dX0_init_4 : decode cX0_init 4 = .ok (.aload_n 0, 1) := by decide +kernel
theorem dX0_init_5 : decode cX0_init 5 = .ok (.bipush 60, 2) := by decide +kernel
theorem dX0_init_7 : decode cX0_init 7 = .ok (.newarray .int, 2) := by decide +kernel
theorem dX0_init_9 : decode cX0_init 9 = .ok (.putfield 9, 3) := by decide +kernel
theorem dX0_init_12 : decode cX0_init 12 = .ok (.aload_n 0, 1) := by decide +kernel
theorem dX0_init_13 : decode cX0_init 13 = .ok (.bipush 60, 2) := by decide +kernel
theorem dX0_init_15 : decode cX0_init 15 = .ok (.newarray .char, 2) := by decide +kernel
theorem dX0_init_17 : decode cX0_init 17 = .ok (.putfield 15, 3) := by decide +kernel
theorem dX0_init_20 : decode cX0_init 20 = .ok (.return_, 1) := by decide +kernel
theorem dX0_truthOf_0 : decode cX0_truthOf 0 = .ok (.iload_n 1, 1) := by decide +kernel
theorem dX0_truthOf_1 : decode cX0_truthOf 1 = .ok (.invokestatic 19, 3) := by decide +kernel
theorem dX0_truthOf_4 : decode cX0_truthOf 4 = .ok (.ifCond .eq 14, 3) := by decide +kernel
theorem dX0_truthOf_7 : decode cX0_truthOf 7 = .ok (.aload_n 0, 1) := by decide +kernel
theorem dX0_truthOf_8 : decode cX0_truthOf 8 = .ok (.getfield 9, 3) := by decide +kernel
theorem dX0_truthOf_11 : decode cX0_truthOf 11 = .ok (.iload_n 1, 1) := by decide +kernel
theorem dX0_truthOf_12 : decode cX0_truthOf 12 = .ok (.iaload, 1) := by decide +kernel
theorem dX0_truthOf_13 : decode cX0_truthOf 13 = .ok (.iconst 1, 1) := by decide +kernel
theorem dX0_truthOf_14 : decode cX0_truthOf 14 = .ok (.isub, 1) := by decide +kernel
theorem dX0_truthOf_15 : decode cX0_truthOf 15 = .ok (.goto 4, 3) := by decide +kernel
theorem dX0_truthOf_18 : decode cX0_truthOf 18 = .ok (.iconst (-1), 1) := by decide +kernel
theorem dX0_truthOf_19 : decode cX0_truthOf 19 = .ok (.ireturn, 1) := by decide +kernel
theorem dX0_noteTruth_0 : decode cX0_noteTruth 0 = .ok (.iload_n 1, 1) := by decide +kernel
theorem dX0_noteTruth_1 : decode cX0_noteTruth 1 = .ok (.invokestatic 19, 3) := by decide +kernel
theorem dX0_noteTruth_4 : decode cX0_noteTruth 4 = .ok (.ifCond .eq 12, 3) := by decide +kernel
theorem dX0_noteTruth_7 : decode cX0_noteTruth 7 = .ok (.aload_n 0, 1) := by decide +kernel
theorem dX0_noteTruth_8 : decode cX0_noteTruth 8 = .ok (.getfield 9, 3) := by decide +kernel
theorem dX0_noteTruth_11 : decode cX0_noteTruth 11 = .ok (.iload_n 1, 1) := by decide +kernel
theorem dX0_noteTruth_12 : decode cX0_noteTruth 12 = .ok (.iload_n 2, 1) := by decide +kernel
theorem dX0_noteTruth_13 : decode cX0_noteTruth 13 = .ok (.iconst 1, 1) := by decide +kernel
theorem dX0_noteTruth_14 : decode cX0_noteTruth 14 = .ok (.iadd, 1) := by decide +kernel
theorem dX0_noteTruth_15 : decode cX0_noteTruth 15 = .ok (.iastore, 1) := by decide +kernel
theorem dX0_noteTruth_16 : decode cX0_noteTruth 16 = .ok (.return_, 1) := by decide +kernel
theorem dX0_placeOf_0 : decode cX0_placeOf 0 = .ok (.iload_n 1, 1) := by decide +kernel
theorem dX0_placeOf_1 : decode cX0_placeOf 1 = .ok (.invokestatic 19, 3) := by decide +kernel
theorem dX0_placeOf_4 : decode cX0_placeOf 4 = .ok (.ifCond .eq 12, 3) := by decide +kernel
theorem dX0_placeOf_7 : decode cX0_placeOf 7 = .ok (.aload_n 0, 1) := by decide +kernel
theorem dX0_placeOf_8 : decode cX0_placeOf 8 = .ok (.getfield 15, 3) := by decide +kernel
theorem dX0_placeOf_11 : decode cX0_placeOf 11 = .ok (.iload_n 1, 1) := by decide +kernel
theorem dX0_placeOf_12 : decode cX0_placeOf 12 = .ok (.caload, 1) := by decide +kernel
theorem dX0_placeOf_13 : decode cX0_placeOf 13 = .ok (.goto 5, 3) := by decide +kernel
theorem dX0_placeOf_16 : decode cX0_placeOf 16 = .ok (.bipush 32, 2) := by decide +kernel
theorem dX0_placeOf_18 : decode cX0_placeOf 18 = .ok (.ireturn, 1) := by decide +kernel
theorem dX0_notePlace_0 : decode cX0_notePlace 0 = .ok (.iload_n 1, 1) := by decide +kernel
theorem dX0_notePlace_1 : decode cX0_notePlace 1 = .ok (.invokestatic 19, 3) := by decide +kernel
theorem dX0_notePlace_4 : decode cX0_notePlace 4 = .ok (.ifCond .eq 10, 3) := by decide +kernel
theorem dX0_notePlace_7 : decode cX0_notePlace 7 = .ok (.aload_n 0, 1) := by decide +kernel
theorem dX0_notePlace_8 : decode cX0_notePlace 8 = .ok (.getfield 15, 3) := by decide +kernel
theorem dX0_notePlace_11 : decode cX0_notePlace 11 = .ok (.iload_n 1, 1) := by decide +kernel
theorem dX0_notePlace_12 : decode cX0_notePlace 12 = .ok (.iload_n 2, 1) := by decide +kernel
theorem dX0_notePlace_13 : decode cX0_notePlace 13 = .ok (.castore, 1) := by decide +kernel
theorem dX0_notePlace_14 : decode cX0_notePlace 14 = .ok (.return_, 1) := by decide +kernel
theorem dX0_noteGrades_0 : decode cX0_noteGrades 0 = .ok (.aload_n 0, 1) := by decide +kernel
theorem dX0_noteGrades_1 : decode cX0_noteGrades 1 = .ok (.dup, 1) := by decide +kernel
theorem dX0_noteGrades_2 : decode cX0_noteGrades 2 = .ok (.getfield 23, 3) := by decide +kernel
theorem dX0_noteGrades_5 : decode cX0_noteGrades 5 = .ok (.iload_n 1, 1) := by decide +kernel
theorem dX0_noteGrades_6 : decode cX0_noteGrades 6 = .ok (.iadd, 1) := by decide +kernel
theorem dX0_noteGrades_7 : decode cX0_noteGrades 7 = .ok (.putfield 23, 3) := by decide +kernel
theorem dX0_noteGrades_10 : decode cX0_noteGrades 10 = .ok (.aload_n 0, 1) := by decide +kernel
theorem dX0_noteGrades_11 : decode cX0_noteGrades 11 = .ok (.dup, 1) := by decide +kernel
theorem dX0_noteGrades_12 : decode cX0_noteGrades 12 = .ok (.getfield 27, 3) := by decide +kernel
theorem dX0_noteGrades_15 : decode cX0_noteGrades 15 = .ok (.iload_n 2, 1) := by decide +kernel
theorem dX0_noteGrades_16 : decode cX0_noteGrades 16 = .ok (.iadd, 1) := by decide +kernel
theorem dX0_noteGrades_17 : decode cX0_noteGrades 17 = .ok (.putfield 27, 3) := by decide +kernel
theorem dX0_noteGrades_20 : decode cX0_noteGrades 20 = .ok (.return_, 1) := by decide +kernel
theorem dX1_init_0 : decode cX1_init 0 = .ok (.aload_n 0, 1) := by decide +kernel
theorem dX1_init_1 : decode cX1_init 1 = .ok (.invokespecial 3, 3) := by decide +kernel
theorem dX1_init_4 : decode cX1_init 4 = .ok (.aload_n 0, 1) := by decide +kernel
theorem dX1_init_5 : decode cX1_init 5 = .ok (.bipush 60, 2) := by decide +kernel
theorem dX1_init_7 : decode cX1_init 7 = .ok (.newarray .boolean, 2) := by decide +kernel
theorem dX1_init_9 : decode cX1_init 9 = .ok (.putfield 9, 3) := by decide +kernel
theorem dX1_init_12 : decode cX1_init 12 = .ok (.aload_n 0, 1) := by decide +kernel
theorem dX1_init_13 : decode cX1_init 13 = .ok (.bipush 60, 2) := by decide +kernel
theorem dX1_init_15 : decode cX1_init 15 = .ok (.newarray .int, 2) := by decide +kernel
theorem dX1_init_17 : decode cX1_init 17 = .ok (.putfield 15, 3) := by decide +kernel
theorem dX1_init_20 : decode cX1_init 20 = .ok (.aload_n 0, 1) := by decide +kernel
theorem dX1_init_21 : decode cX1_init 21 = .ok (.bipush 60, 2) := by decide +kernel
theorem dX1_init_23 : decode cX1_init 23 = .ok (.newarray .int, 2) := by decide +kernel
theorem dX1_init_25 : decode cX1_init 25 = .ok (.putfield 19, 3) := by decide +kernel
theorem dX1_init_28 : decode cX1_init 28 = .ok (.return_, 1) := by decide +kernel
theorem dX1_wasDug_0 : decode cX1_wasDug 0 = .ok (.iload_n 1, 1) := by decide +kernel
theorem dX1_wasDug_1 : decode cX1_wasDug 1 = .ok (.invokestatic 22, 3) := by decide +kernel
theorem dX1_wasDug_4 : decode cX1_wasDug 4 = .ok (.ifCond .eq 16, 3) := by decide +kernel
theorem dX1_wasDug_7 : decode cX1_wasDug 7 = .ok (.aload_n 0, 1) := by decide +kernel
theorem dX1_wasDug_8 : decode cX1_wasDug 8 = .ok (.getfield 15, 3) := by decide +kernel
theorem dX1_wasDug_11 : decode cX1_wasDug 11 = .ok (.iload_n 1, 1) := by decide +kernel
theorem dX1_wasDug_12 : decode cX1_wasDug 12 = .ok (.iaload, 1) := by decide +kernel
theorem dX1_wasDug_13 : decode cX1_wasDug 13 = .ok (.ifCond .le 7, 3) := by decide +kernel
theorem dX1_wasDug_16 : decode cX1_wasDug 16 = .ok (.iconst 1, 1) := by decide +kernel
theorem dX1_wasDug_17 : decode cX1_wasDug 17 = .ok (.goto 4, 3) := by decide +kernel
theorem dX1_wasDug_20 : decode cX1_wasDug 20 = .ok (.iconst 0, 1) := by decide +kernel
theorem dX1_wasDug_21 : decode cX1_wasDug 21 = .ok (.ireturn, 1) := by decide +kernel
theorem dX1_isHard_0 : decode cX1_isHard 0 = .ok (.iload_n 1, 1) := by decide +kernel
theorem dX1_isHard_1 : decode cX1_isHard 1 = .ok (.invokestatic 22, 3) := by decide +kernel
theorem dX1_isHard_4 : decode cX1_isHard 4 = .ok (.ifCond .eq 16, 3) := by decide +kernel
theorem dX1_isHard_7 : decode cX1_isHard 7 = .ok (.aload_n 0, 1) := by decide +kernel
theorem dX1_isHard_8 : decode cX1_isHard 8 = .ok (.getfield 9, 3) := by decide +kernel
theorem dX1_isHard_11 : decode cX1_isHard 11 = .ok (.iload_n 1, 1) := by decide +kernel
theorem dX1_isHard_12 : decode cX1_isHard 12 = .ok (.baload, 1) := by decide +kernel
theorem dX1_isHard_13 : decode cX1_isHard 13 = .ok (.ifCond .eq 7, 3) := by decide +kernel
theorem dX1_isHard_16 : decode cX1_isHard 16 = .ok (.iconst 1, 1) := by decide +kernel
theorem dX1_isHard_17 : decode cX1_isHard 17 = .ok (.goto 4, 3) := by decide +kernel
theorem dX1_isHard_20 : decode cX1_isHard 20 = .ok (.iconst 0, 1) := by decide +kernel
theorem dX1_isHard_21 : decode cX1_isHard 21 = .ok (.ireturn, 1) := by decide +kernel
theorem dX1_harden_0 : decode cX1_harden 0 = .ok (.iload_n 1, 1) := by decide +kernel
theorem dX1_harden_1 : decode cX1_harden 1 = .ok (.invokestatic 22, 3) := by decide +kernel
theorem dX1_harden_4 : decode cX1_harden 4 = .ok (.ifCond .eq 10, 3) := by decide +kernel
theorem dX1_harden_7 : decode cX1_harden 7 = .ok (.aload_n 0, 1) := by decide +kernel
theorem dX1_harden_8 : decode cX1_harden 8 = .ok (.getfield 9, 3) := by decide +kernel
theorem dX1_harden_11 : decode cX1_harden 11 = .ok (.iload_n 1, 1) := by decide +kernel
theorem dX1_harden_12 : decode cX1_harden 12 = .ok (.iload_n 2, 1) := by decide +kernel
theorem dX1_harden_13 : decode cX1_harden 13 = .ok (.bastore, 1) := by decide +kernel
theorem dX1_harden_14 : decode cX1_harden 14 = .ok (.return_, 1) := by decide +kernel
theorem dX1_weekOf_0 : decode cX1_weekOf 0 = .ok (.iload_n 1, 1) := by decide +kernel
theorem dX1_weekOf_1 : decode cX1_weekOf 1 = .ok (.invokestatic 22, 3) := by decide +kernel
theorem dX1_weekOf_4 : decode cX1_weekOf 4 = .ok (.ifCond .eq 12, 3) := by decide +kernel
theorem dX1_weekOf_7 : decode cX1_weekOf 7 = .ok (.aload_n 0, 1) := by decide +kernel
theorem dX1_weekOf_8 : decode cX1_weekOf 8 = .ok (.getfield 19, 3) := by decide +kernel
theorem dX1_weekOf_11 : decode cX1_weekOf 11 = .ok (.iload_n 1, 1) := by decide +kernel
theorem dX1_weekOf_12 : decode cX1_weekOf 12 = .ok (.iaload, 1) := by decide +kernel
theorem dX1_weekOf_13 : decode cX1_weekOf 13 = .ok (.goto 4, 3) := by decide +kernel
theorem dX1_weekOf_16 : decode cX1_weekOf 16 = .ok (.iconst (-1), 1) := by decide +kernel
theorem dX1_weekOf_17 : decode cX1_weekOf 17 = .ok (.ireturn, 1) := by decide +kernel
theorem dX1_markDug_0 : decode cX1_markDug 0 = .ok (.iload_n 1, 1) := by decide +kernel
theorem dX1_markDug_1 : decode cX1_markDug 1 = .ok (.invokestatic 22, 3) := by decide +kernel
theorem dX1_markDug_4 : decode cX1_markDug 4 = .ok (.ifCond .eq 30, 3) := by decide +kernel
theorem dX1_markDug_7 : decode cX1_markDug 7 = .ok (.aload_n 0, 1) := by decide +kernel
theorem dX1_markDug_8 : decode cX1_markDug 8 = .ok (.dup, 1) := by decide +kernel
theorem dX1_markDug_9 : decode cX1_markDug 9 = .ok (.getfield 26, 3) := by decide +kernel
theorem dX1_markDug_12 : decode cX1_markDug 12 = .ok (.iconst 1, 1) := by decide +kernel
theorem dX1_markDug_13 : decode cX1_markDug 13 = .ok (.iadd, 1) := by decide +kernel
theorem dX1_markDug_14 : decode cX1_markDug 14 = .ok (.putfield 26, 3) := by decide +kernel
theorem dX1_markDug_17 : decode cX1_markDug 17 = .ok (.aload_n 0, 1) := by decide +kernel
theorem dX1_markDug_18 : decode cX1_markDug 18 = .ok (.getfield 15, 3) := by decide +kernel
theorem dX1_markDug_21 : decode cX1_markDug 21 = .ok (.iload_n 1, 1) := by decide +kernel
theorem dX1_markDug_22 : decode cX1_markDug 22 = .ok (.aload_n 0, 1) := by decide +kernel
theorem dX1_markDug_23 : decode cX1_markDug 23 = .ok (.getfield 26, 3) := by decide +kernel
theorem dX1_markDug_26 : decode cX1_markDug 26 = .ok (.iastore, 1) := by decide +kernel
theorem dX1_markDug_27 : decode cX1_markDug 27 = .ok (.aload_n 0, 1) := by decide +kernel
theorem dX1_markDug_28 : decode cX1_markDug 28 = .ok (.getfield 19, 3) := by decide +kernel
theorem dX1_markDug_31 : decode cX1_markDug 31 = .ok (.iload_n 1, 1) := by decide +kernel
theorem dX1_markDug_32 : decode cX1_markDug 32 = .ok (.iload_n 2, 1) := by decide +kernel
theorem dX1_markDug_33 : decode cX1_markDug 33 = .ok (.iastore, 1) := by decide +kernel
theorem dX1_markDug_34 : decode cX1_markDug 34 = .ok (.return_, 1) := by decide +kernel
theorem dX1_neededAbove_0 : decode cX1_neededAbove 0 = .ok (.iload_n 1, 1) := by decide +kernel
theorem dX1_neededAbove_1 : decode cX1_neededAbove 1 = .ok (.bipush 10, 2) := by decide +kernel
theorem dX1_neededAbove_3 : decode cX1_neededAbove 3 = .ok (.irem, 1) := by decide +kernel
theorem dX1_neededAbove_4 : decode cX1_neededAbove 4 = .ok (.iload_n 2, 1) := by decide +kernel
theorem dX1_neededAbove_5 : decode cX1_neededAbove 5 = .ok (.iadd, 1) := by decide +kernel
theorem dX1_neededAbove_6 : decode cX1_neededAbove 6 = .ok (.istore_n 3, 1) := by decide +kernel
theorem dX1_neededAbove_7 : decode cX1_neededAbove 7 = .ok (.iload_n 1, 1) := by decide +kernel
theorem dX1_neededAbove_8 : decode cX1_neededAbove 8 = .ok (.bipush 10, 2) := by decide +kernel
theorem dX1_neededAbove_10 : decode cX1_neededAbove 10 = .ok (.if_icmp .lt 25, 3) := by decide +kernel
theorem dX1_neededAbove_13 : decode cX1_neededAbove 13 = .ok (.iload_n 3, 1) := by decide +kernel
theorem dX1_neededAbove_14 : decode cX1_neededAbove 14 = .ok (.ifCond .lt 21, 3) := by decide +kernel
theorem dX1_neededAbove_17 : decode cX1_neededAbove 17 = .ok (.iload_n 3, 1) := by decide +kernel
theorem dX1_neededAbove_18 : decode cX1_neededAbove 18 = .ok (.bipush 10, 2) := by decide +kernel
theorem dX1_neededAbove_20 : decode cX1_neededAbove 20 = .ok (.if_icmp .ge 15, 3) := by decide +kernel
theorem dX1_neededAbove_23 : decode cX1_neededAbove 23 = .ok (.iload_n 2, 1) := by decide +kernel
theorem dX1_neededAbove_24 : decode cX1_neededAbove 24 = .ok (.ifCond .eq 13, 3) := by decide +kernel
theorem dX1_neededAbove_27 : decode cX1_neededAbove 27 = .ok (.aload_n 0, 1) := by decide +kernel
theorem dX1_neededAbove_28 : decode cX1_neededAbove 28 = .ok (.iload_n 1, 1) := by decide +kernel
theorem dX1_neededAbove_29 : decode cX1_neededAbove 29 = .ok (.invokevirtual 30, 3) := by decide +kernel
theorem dX1_neededAbove_32 : decode cX1_neededAbove 32 = .ok (.ifCond .eq 5, 3) := by decide +kernel
theorem dX1_neededAbove_35 : decode cX1_neededAbove 35 = .ok (.iconst (-1), 1) := by decide +kernel
theorem dX1_neededAbove_36 : decode cX1_neededAbove 36 = .ok (.ireturn, 1) := by decide +kernel
theorem dX1_neededAbove_37 : decode cX1_neededAbove 37 = .ok (.iload_n 1, 1) := by decide +kernel
theorem dX1_neededAbove_38 : decode cX1_neededAbove 38 = .ok (.bipush 10, 2) := by decide +kernel
theorem dX1_neededAbove_40 : decode cX1_neededAbove 40 = .ok (.isub, 1) := by decide +kernel
theorem dX1_neededAbove_41 : decode cX1_neededAbove 41 = .ok (.iload_n 2, 1) := by decide +kernel
theorem dX1_neededAbove_42 : decode cX1_neededAbove 42 = .ok (.iadd, 1) := by decide +kernel
theorem dX1_neededAbove_43 : decode cX1_neededAbove 43 = .ok (.ireturn, 1) := by decide +kernel
theorem dX1_liesFree_0 : decode cX1_liesFree 0 = .ok (.aload_n 0, 1) := by decide +kernel
theorem dX1_liesFree_1 : decode cX1_liesFree 1 = .ok (.iload_n 1, 1) := by decide +kernel
theorem dX1_liesFree_2 : decode cX1_liesFree 2 = .ok (.invokevirtual 33, 3) := by decide +kernel
theorem dX1_liesFree_5 : decode cX1_liesFree 5 = .ok (.ifCond .eq 5, 3) := by decide +kernel
theorem dX1_liesFree_8 : decode cX1_liesFree 8 = .ok (.iconst 0, 1) := by decide +kernel
theorem dX1_liesFree_9 : decode cX1_liesFree 9 = .ok (.ireturn, 1) := by decide +kernel
theorem dX1_liesFree_10 : decode cX1_liesFree 10 = .ok (.iconst (-1), 1) := by decide +kernel
theorem dX1_liesFree_11 : decode cX1_liesFree 11 = .ok (.istore_n 2, 1) := by decide +kernel
theorem dX1_liesFree_12 : decode cX1_liesFree 12 = .ok (.iload_n 2, 1) := by decide +kernel
theorem dX1_liesFree_13 : decode cX1_liesFree 13 = .ok (.iconst 1, 1) := by decide +kernel
theorem dX1_liesFree_14 : decode cX1_liesFree 14 = .ok (.if_icmp .gt 30, 3) := by decide +kernel
theorem dX1_liesFree_17 : decode cX1_liesFree 17 = .ok (.aload_n 0, 1) := by decide +kernel
theorem dX1_liesFree_18 : decode cX1_liesFree 18 = .ok (.iload_n 1, 1) := by decide +kernel
theorem dX1_liesFree_19 : decode cX1_liesFree 19 = .ok (.iload_n 2, 1) := by decide +kernel
theorem dX1_liesFree_20 : decode cX1_liesFree 20 = .ok (.invokevirtual 36, 3) := by decide +kernel
theorem dX1_liesFree_23 : decode cX1_liesFree 23 = .ok (.istore_n 3, 1) := by decide +kernel
theorem dX1_liesFree_24 : decode cX1_liesFree 24 = .ok (.iload_n 3, 1) := by decide +kernel
theorem dX1_liesFree_25 : decode cX1_liesFree 25 = .ok (.ifCond .lt 13, 3) := by decide +kernel
theorem dX1_liesFree_28 : decode cX1_liesFree 28 = .ok (.aload_n 0, 1) := by decide +kernel
theorem dX1_liesFree_29 : decode cX1_liesFree 29 = .ok (.iload_n 3, 1) := by decide +kernel
theorem dX1_liesFree_30 : decode cX1_liesFree 30 = .ok (.invokevirtual 33, 3) := by decide +kernel
theorem dX1_liesFree_33 : decode cX1_liesFree 33 = .ok (.ifCond .ne 5, 3) := by decide +kernel
theorem dX1_liesFree_36 : decode cX1_liesFree 36 = .ok (.iconst 0, 1) := by decide +kernel
theorem dX1_liesFree_37 : decode cX1_liesFree 37 = .ok (.ireturn, 1) := by decide +kernel
theorem dX1_liesFree_38 : decode cX1_liesFree 38 = .ok (.iinc 2 1, 3) := by decide +kernel
theorem dX1_liesFree_41 : decode cX1_liesFree 41 = .ok (.goto (-29), 3) := by decide +kernel
theorem dX1_liesFree_44 : decode cX1_liesFree 44 = .ok (.iconst 1, 1) := by decide +kernel
theorem dX1_liesFree_45 : decode cX1_liesFree 45 = .ok (.ireturn, 1) := by decide +kernel
theorem dX1_dugInColumn_0 : decode cX1_dugInColumn 0 = .ok (.iconst 0, 1) := by decide +kernel
theorem dX1_dugInColumn_1 : decode cX1_dugInColumn 1 = .ok (.istore_n 2, 1) := by decide +kernel
theorem dX1_dugInColumn_2 : decode cX1_dugInColumn 2 = .ok (.iload_n 2, 1) := by decide +kernel
theorem dX1_dugInColumn_3 : decode cX1_dugInColumn 3 = .ok (.bipush 6, 2) := by decide +kernel
theorem dX1_dugInColumn_5 : decode cX1_dugInColumn 5 = .ok (.if_icmp .ge 22, 3) := by decide +kernel
theorem dX1_dugInColumn_8 : decode cX1_dugInColumn 8 = .ok (.aload_n 0, 1) := by decide +kernel
theorem dX1_dugInColumn_9 : decode cX1_dugInColumn 9 = .ok (.iload_n 2, 1) := by decide +kernel
theorem dX1_dugInColumn_10 : decode cX1_dugInColumn 10 = .ok (.bipush 10, 2) := by decide +kernel
theorem dX1_dugInColumn_12 : decode cX1_dugInColumn 12 = .ok (.imul, 1) := by decide +kernel
theorem dX1_dugInColumn_13 : decode cX1_dugInColumn 13 = .ok (.iload_n 1, 1) := by decide +kernel
theorem dX1_dugInColumn_14 : decode cX1_dugInColumn 14 = .ok (.iadd, 1) := by decide +kernel
theorem dX1_dugInColumn_15 : decode cX1_dugInColumn 15 = .ok (.invokevirtual 33, 3) := by decide +kernel
theorem dX1_dugInColumn_18 : decode cX1_dugInColumn 18 = .ok (.ifCond .eq 9, 3) := by decide +kernel
theorem dX1_dugInColumn_21 : decode cX1_dugInColumn 21 = .ok (.iinc 2 1, 3) := by decide +kernel
theorem dX1_dugInColumn_24 : decode cX1_dugInColumn 24 = .ok (.goto (-22), 3) := by decide +kernel
theorem dX1_dugInColumn_27 : decode cX1_dugInColumn 27 = .ok (.iload_n 2, 1) := by decide +kernel
theorem dX1_dugInColumn_28 : decode cX1_dugInColumn 28 = .ok (.ireturn, 1) := by decide +kernel
theorem dX1_deepestDug_0 : decode cX1_deepestDug 0 = .ok (.iconst (-1), 1) := by decide +kernel
theorem dX1_deepestDug_1 : decode cX1_deepestDug 1 = .ok (.istore_n 1, 1) := by decide +kernel
theorem dX1_deepestDug_2 : decode cX1_deepestDug 2 = .ok (.iconst 0, 1) := by decide +kernel
theorem dX1_deepestDug_3 : decode cX1_deepestDug 3 = .ok (.istore_n 2, 1) := by decide +kernel
theorem dX1_deepestDug_4 : decode cX1_deepestDug 4 = .ok (.iload_n 2, 1) := by decide +kernel
theorem dX1_deepestDug_5 : decode cX1_deepestDug 5 = .ok (.bipush 10, 2) := by decide +kernel
theorem dX1_deepestDug_7 : decode cX1_deepestDug 7 = .ok (.if_icmp .ge 21, 3) := by decide +kernel
theorem dX1_deepestDug_10 : decode cX1_deepestDug 10 = .ok (.iload_n 1, 1) := by decide +kernel
theorem dX1_deepestDug_11 : decode cX1_deepestDug 11 = .ok (.aload_n 0, 1) := by decide +kernel
theorem dX1_deepestDug_12 : decode cX1_deepestDug 12 = .ok (.iload_n 2, 1) := by decide +kernel
theorem dX1_deepestDug_13 : decode cX1_deepestDug 13 = .ok (.invokevirtual 40, 3) := by decide +kernel
theorem dX1_deepestDug_16 : decode cX1_deepestDug 16 = .ok (.iconst 1, 1) := by decide +kernel
theorem dX1_deepestDug_17 : decode cX1_deepestDug 17 = .ok (.isub, 1) := by decide +kernel
theorem dX1_deepestDug_18 : decode cX1_deepestDug 18 = .ok (.invokestatic 44, 3) := by decide +kernel
theorem dX1_deepestDug_21 : decode cX1_deepestDug 21 = .ok (.istore_n 1, 1) := by decide +kernel
theorem dX1_deepestDug_22 : decode cX1_deepestDug 22 = .ok (.iinc 2 1, 3) := by decide +kernel
theorem dX1_deepestDug_25 : decode cX1_deepestDug 25 = .ok (.goto (-21), 3) := by decide +kernel
theorem dX1_deepestDug_28 : decode cX1_deepestDug 28 = .ok (.iload_n 1, 1) := by decide +kernel
theorem dX1_deepestDug_29 : decode cX1_deepestDug 29 = .ok (.ireturn, 1) := by decide +kernel
theorem dX1_wasDugInOrder_0 : decode cX1_wasDugInOrder 0 = .ok (.iconst 0, 1) := by decide +kernel
theorem dX1_wasDugInOrder_1 : decode cX1_wasDugInOrder 1 = .ok (.istore_n 1, 1) := by decide +kernel
theorem dX1_wasDugInOrder_2 : decode cX1_wasDugInOrder 2 = .ok (.iload_n 1, 1) := by decide +kernel
theorem dX1_wasDugInOrder_3 : decode cX1_wasDugInOrder 3 = .ok (.bipush 60, 2) := by decide +kernel
theorem dX1_wasDugInOrder_5 : decode cX1_wasDugInOrder 5 = .ok (.if_icmp .ge 46, 3) := by decide +kernel
theorem dX1_wasDugInOrder_8 : decode cX1_wasDugInOrder 8 = .ok (.iconst (-1), 1) := by decide +kernel
theorem dX1_wasDugInOrder_9 : decode cX1_wasDugInOrder 9 = .ok (.istore_n 2, 1) := by decide +kernel
theorem dX1_wasDugInOrder_10 : decode cX1_wasDugInOrder 10 = .ok (.iload_n 2, 1) := by decide +kernel
theorem dX1_wasDugInOrder_11 : decode cX1_wasDugInOrder 11 = .ok (.iconst 1, 1) := by decide +kernel
theorem dX1_wasDugInOrder_12 : decode cX1_wasDugInOrder 12 = .ok (.if_icmp .gt 33, 3) := by decide +kernel
theorem dX1_wasDugInOrder_15 : decode cX1_wasDugInOrder 15 = .ok (.aload_n 0, 1) := by decide +kernel
theorem dX1_wasDugInOrder_16 : decode cX1_wasDugInOrder 16 = .ok (.iload_n 1, 1) := by decide +kernel
theorem dX1_wasDugInOrder_17 : decode cX1_wasDugInOrder 17 = .ok (.invokevirtual 33, 3) := by decide +kernel
theorem dX1_wasDugInOrder_20 : decode cX1_wasDugInOrder 20 = .ok (.ifCond .eq 19, 3) := by decide +kernel
theorem dX1_wasDugInOrder_23 : decode cX1_wasDugInOrder 23 = .ok (.aload_n 0, 1) := by decide +kernel
theorem dX1_wasDugInOrder_24 : decode cX1_wasDugInOrder 24 = .ok (.aload_n 0, 1) := by decide +kernel
theorem dX1_wasDugInOrder_25 : decode cX1_wasDugInOrder 25 = .ok (.iload_n 1, 1) := by decide +kernel
theorem dX1_wasDugInOrder_26 : decode cX1_wasDugInOrder 26 = .ok (.iload_n 2, 1) := by decide +kernel
theorem dX1_wasDugInOrder_27 : decode cX1_wasDugInOrder 27 = .ok (.invokevirtual 36, 3) := by decide +kernel
theorem dX1_wasDugInOrder_30 : decode cX1_wasDugInOrder 30 = .ok (.iload_n 1, 1) := by decide +kernel
theorem dX1_wasDugInOrder_31 : decode cX1_wasDugInOrder 31 = .ok (.invokevirtual 49, 3) := by decide +kernel
theorem dX1_wasDugInOrder_34 : decode cX1_wasDugInOrder 34 = .ok (.ifCond .ne 5, 3) := by decide +kernel
theorem dX1_wasDugInOrder_37 : decode cX1_wasDugInOrder 37 = .ok (.iconst 0, 1) := by decide +kernel
theorem dX1_wasDugInOrder_38 : decode cX1_wasDugInOrder 38 = .ok (.ireturn, 1) := by decide +kernel
theorem dX1_wasDugInOrder_39 : decode cX1_wasDugInOrder 39 = .ok (.iinc 2 1, 3) := by decide +kernel
theorem dX1_wasDugInOrder_42 : decode cX1_wasDugInOrder 42 = .ok (.goto (-32), 3) := by decide +kernel
theorem dX1_wasDugInOrder_45 : decode cX1_wasDugInOrder 45 = .ok (.iinc 1 1, 3) := by decide +kernel
theorem dX1_wasDugInOrder_48 : decode cX1_wasDugInOrder 48 = .ok (.goto (-46), 3) := by decide +kernel
theorem dX1_wasDugInOrder_51 : decode cX1_wasDugInOrder 51 = .ok (.iconst 1, 1) := by decide +kernel
theorem dX1_wasDugInOrder_52 : decode cX1_wasDugInOrder 52 = .ok (.ireturn, 1) := by decide +kernel
theorem dX1_wasAhead_0 : decode cX1_wasAhead 0 = .ok (.iload_n 1, 1) := by decide +kernel
theorem dX1_wasAhead_1 : decode cX1_wasAhead 1 = .ok (.invokestatic 22, 3) := by decide +kernel
theorem dX1_wasAhead_4 : decode cX1_wasAhead 4 = .ok (.ifCond .eq 10, 3) := by decide +kernel
theorem dX1_wasAhead_7 : decode cX1_wasAhead 7 = .ok (.iload_n 2, 1) := by decide +kernel
theorem dX1_wasAhead_8 : decode cX1_wasAhead 8 = .ok (.invokestatic 22, 3) := by decide +kernel
theorem dX1_wasAhead_11 : decode cX1_wasAhead 11 = .ok (.ifCond .ne 5, 3) := by decide +kernel
theorem dX1_wasAhead_14 : decode cX1_wasAhead 14 = .ok (.iconst 1, 1) := by decide +kernel
theorem dX1_wasAhead_15 : decode cX1_wasAhead 15 = .ok (.ireturn, 1) := by decide +kernel
theorem dX1_wasAhead_16 : decode cX1_wasAhead 16 = .ok (.aload_n 0, 1) := by decide +kernel
theorem dX1_wasAhead_17 : decode cX1_wasAhead 17 = .ok (.iload_n 1, 1) := by decide +kernel
theorem dX1_wasAhead_18 : decode cX1_wasAhead 18 = .ok (.invokevirtual 33, 3) := by decide +kernel
theorem dX1_wasAhead_21 : decode cX1_wasAhead 21 = .ok (.ifCond .eq 37, 3) := by decide +kernel
theorem dX1_wasAhead_24 : decode cX1_wasAhead 24 = .ok (.aload_n 0, 1) := by decide +kernel
theorem dX1_wasAhead_25 : decode cX1_wasAhead 25 = .ok (.getfield 15, 3) := by decide +kernel
theorem dX1_wasAhead_28 : decode cX1_wasAhead 28 = .ok (.iload_n 1, 1) := by decide +kernel
theorem dX1_wasAhead_29 : decode cX1_wasAhead 29 = .ok (.iaload, 1) := by decide +kernel
theorem dX1_wasAhead_30 : decode cX1_wasAhead 30 = .ok (.aload_n 0, 1) := by decide +kernel
theorem dX1_wasAhead_31 : decode cX1_wasAhead 31 = .ok (.getfield 15, 3) := by decide +kernel
theorem dX1_wasAhead_34 : decode cX1_wasAhead 34 = .ok (.iload_n 2, 1) := by decide +kernel
theorem dX1_wasAhead_35 : decode cX1_wasAhead 35 = .ok (.iaload, 1) := by decide +kernel
theorem dX1_wasAhead_36 : decode cX1_wasAhead 36 = .ok (.if_icmp .ge 22, 3) := by decide +kernel
theorem dX1_wasAhead_39 : decode cX1_wasAhead 39 = .ok (.aload_n 0, 1) := by decide +kernel
theorem dX1_wasAhead_40 : decode cX1_wasAhead 40 = .ok (.getfield 19, 3) := by decide +kernel
theorem dX1_wasAhead_43 : decode cX1_wasAhead 43 = .ok (.iload_n 1, 1) := by decide +kernel
theorem dX1_wasAhead_44 : decode cX1_wasAhead 44 = .ok (.iaload, 1) := by decide +kernel
theorem dX1_wasAhead_45 : decode cX1_wasAhead 45 = .ok (.aload_n 0, 1) := by decide +kernel
theorem dX1_wasAhead_46 : decode cX1_wasAhead 46 = .ok (.getfield 19, 3) := by decide +kernel
theorem dX1_wasAhead_49 : decode cX1_wasAhead 49 = .ok (.iload_n 2, 1) := by decide +kernel
theorem dX1_wasAhead_50 : decode cX1_wasAhead 50 = .ok (.iaload, 1) := by decide +kernel
theorem dX1_wasAhead_51 : decode cX1_wasAhead 51 = .ok (.if_icmp .gt 7, 3) := by decide +kernel
theorem dX1_wasAhead_54 : decode cX1_wasAhead 54 = .ok (.iconst 1, 1) := by decide +kernel
theorem dX1_wasAhead_55 : decode cX1_wasAhead 55 = .ok (.goto 4, 3) := by decide +kernel
theorem dX1_wasAhead_58 : decode cX1_wasAhead 58 = .ok (.iconst 0, 1) := by decide +kernel
theorem dX1_wasAhead_59 : decode cX1_wasAhead 59 = .ok (.ireturn, 1) := by decide +kernel
theorem dX2_init_0 : decode cX2_init 0 = .ok (.aload_n 0, 1) := by decide +kernel
theorem dX2_init_1 : decode cX2_init 1 = .ok (.invokespecial 3, 3) := by decide +kernel
theorem dX2_init_4 : decode cX2_init 4 = .ok (.aload_n 0, 1) := by decide +kernel
theorem dX2_init_5 : decode cX2_init 5 = .ok (.bipush 7, 2) := by decide +kernel
theorem dX2_init_7 : decode cX2_init 7 = .ok (.newarray .int, 2) := by decide +kernel
theorem dX2_init_9 : decode cX2_init 9 = .ok (.dup, 1) := by decide +kernel
theorem dX2_init_10 : decode cX2_init 10 = .ok (.iconst 0, 1) := by decide +kernel
theorem dX2_init_11 : decode cX2_init 11 = .ok (.iconst 3, 1) := by decide +kernel
theorem dX2_init_12 : decode cX2_init 12 = .ok (.iastore, 1) := by decide +kernel
theorem dX2_init_13 : decode cX2_init 13 = .ok (.dup, 1) := by decide +kernel
theorem dX2_init_14 : decode cX2_init 14 = .ok (.iconst 1, 1) := by decide +kernel
theorem dX2_init_15 : decode cX2_init 15 = .ok (.iconst 2, 1) := by decide +kernel
theorem dX2_init_16 : decode cX2_init 16 = .ok (.iastore, 1) := by decide +kernel
theorem dX2_init_17 : decode cX2_init 17 = .ok (.dup, 1) := by decide +kernel
theorem dX2_init_18 : decode cX2_init 18 = .ok (.iconst 2, 1) := by decide +kernel
theorem dX2_init_19 : decode cX2_init 19 = .ok (.bipush 20, 2) := by decide +kernel
theorem dX2_init_21 : decode cX2_init 21 = .ok (.iastore, 1) := by decide +kernel
theorem dX2_init_22 : decode cX2_init 22 = .ok (.dup, 1) := by decide +kernel
theorem dX2_init_23 : decode cX2_init 23 = .ok (.iconst 3, 1) := by decide +kernel
theorem dX2_init_24 : decode cX2_init 24 = .ok (.bipush 10, 2) := by decide +kernel
theorem dX2_init_26 : decode cX2_init 26 = .ok (.iastore, 1) := by decide +kernel
theorem dX2_init_27 : decode cX2_init 27 = .ok (.dup, 1) := by decide +kernel
theorem dX2_init_28 : decode cX2_init 28 = .ok (.iconst 4, 1) := by decide +kernel
theorem dX2_init_29 : decode cX2_init 29 = .ok (.bipush 10, 2) := by decide +kernel
theorem dX2_init_31 : decode cX2_init 31 = .ok (.iastore, 1) := by decide +kernel
theorem dX2_init_32 : decode cX2_init 32 = .ok (.dup, 1) := by decide +kernel
theorem dX2_init_33 : decode cX2_init 33 = .ok (.iconst 5, 1) := by decide +kernel
theorem dX2_init_34 : decode cX2_init 34 = .ok (.bipush 10, 2) := by decide +kernel
theorem dX2_init_36 : decode cX2_init 36 = .ok (.iastore, 1) := by decide +kernel
theorem dX2_init_37 : decode cX2_init 37 = .ok (.dup, 1) := by decide +kernel
theorem dX2_init_38 : decode cX2_init 38 = .ok (.bipush 6, 2) := by decide +kernel
theorem dX2_init_40 : decode cX2_init 40 = .ok (.iconst 5, 1) := by decide +kernel
theorem dX2_init_41 : decode cX2_init 41 = .ok (.iastore, 1) := by decide +kernel
theorem dX2_init_42 : decode cX2_init 42 = .ok (.putfield 9, 3) := by decide +kernel
theorem dX2_init_45 : decode cX2_init 45 = .ok (.return_, 1) := by decide +kernel
theorem dX2_mostFor_0 : decode cX2_mostFor 0 = .ok (.iload_n 1, 1) := by decide +kernel
theorem dX2_mostFor_1 : decode cX2_mostFor 1 = .ok (.invokestatic 15, 3) := by decide +kernel
theorem dX2_mostFor_4 : decode cX2_mostFor 4 = .ok (.istore_n 2, 1) := by decide +kernel
theorem dX2_mostFor_5 : decode cX2_mostFor 5 = .ok (.iload_n 2, 1) := by decide +kernel
theorem dX2_mostFor_6 : decode cX2_mostFor 6 = .ok (.ifCond .lt 19, 3) := by decide +kernel
theorem dX2_mostFor_9 : decode cX2_mostFor 9 = .ok (.iload_n 2, 1) := by decide +kernel
theorem dX2_mostFor_10 : decode cX2_mostFor 10 = .ok (.getstatic 19, 3) := by decide +kernel
theorem dX2_mostFor_13 : decode cX2_mostFor 13 = .ok (.arraylength, 1) := by decide +kernel
theorem dX2_mostFor_14 : decode cX2_mostFor 14 = .ok (.if_icmp .ge 11, 3) := by decide +kernel
theorem dX2_mostFor_17 : decode cX2_mostFor 17 = .ok (.getstatic 19, 3) := by decide +kernel
theorem dX2_mostFor_20 : decode cX2_mostFor 20 = .ok (.iload_n 2, 1) := by decide +kernel
theorem dX2_mostFor_21 : decode cX2_mostFor 21 = .ok (.iaload, 1) := by decide +kernel
theorem dX2_mostFor_22 : decode cX2_mostFor 22 = .ok (.goto 4, 3) := by decide +kernel
theorem dX2_mostFor_25 : decode cX2_mostFor 25 = .ok (.iconst (-1), 1) := by decide +kernel
theorem dX2_mostFor_26 : decode cX2_mostFor 26 = .ok (.ireturn, 1) := by decide +kernel
theorem dX2_current_0 : decode cX2_current 0 = .ok (.iload_n 1, 1) := by decide +kernel
theorem dX2_current_1 : decode cX2_current 1 = .ok (.invokestatic 15, 3) := by decide +kernel
theorem dX2_current_4 : decode cX2_current 4 = .ok (.istore_n 2, 1) := by decide +kernel
theorem dX2_current_5 : decode cX2_current 5 = .ok (.iload_n 2, 1) := by decide +kernel
theorem dX2_current_6 : decode cX2_current 6 = .ok (.ifCond .lt 21, 3) := by decide +kernel
theorem dX2_current_9 : decode cX2_current 9 = .ok (.iload_n 2, 1) := by decide +kernel
theorem dX2_current_10 : decode cX2_current 10 = .ok (.aload_n 0, 1) := by decide +kernel
theorem dX2_current_11 : decode cX2_current 11 = .ok (.getfield 9, 3) := by decide +kernel
theorem dX2_current_14 : decode cX2_current 14 = .ok (.arraylength, 1) := by decide +kernel
theorem dX2_current_15 : decode cX2_current 15 = .ok (.if_icmp .ge 12, 3) := by decide +kernel
theorem dX2_current_18 : decode cX2_current 18 = .ok (.aload_n 0, 1) := by decide +kernel
theorem dX2_current_19 : decode cX2_current 19 = .ok (.getfield 9, 3) := by decide +kernel
theorem dX2_current_22 : decode cX2_current 22 = .ok (.iload_n 2, 1) := by decide +kernel
theorem dX2_current_23 : decode cX2_current 23 = .ok (.iaload, 1) := by decide +kernel
theorem dX2_current_24 : decode cX2_current 24 = .ok (.goto 4, 3) := by decide +kernel
theorem dX2_current_27 : decode cX2_current 27 = .ok (.iconst 0, 1) := by decide +kernel
theorem dX2_current_28 : decode cX2_current 28 = .ok (.ireturn, 1) := by decide +kernel
theorem dX2_change_0 : decode cX2_change 0 = .ok (.iload_n 1, 1) := by decide +kernel
theorem dX2_change_1 : decode cX2_change 1 = .ok (.invokestatic 15, 3) := by decide +kernel
theorem dX2_change_4 : decode cX2_change 4 = .ok (.istore_n 3, 1) := by decide +kernel
theorem dX2_change_5 : decode cX2_change 5 = .ok (.iload_n 3, 1) := by decide +kernel
theorem dX2_change_6 : decode cX2_change 6 = .ok (.ifCond .lt 19, 3) := by decide +kernel
theorem dX2_change_9 : decode cX2_change 9 = .ok (.iload_n 3, 1) := by decide +kernel
theorem dX2_change_10 : decode cX2_change 10 = .ok (.aload_n 0, 1) := by decide +kernel
theorem dX2_change_11 : decode cX2_change 11 = .ok (.getfield 9, 3) := by decide +kernel
theorem dX2_change_14 : decode cX2_change 14 = .ok (.arraylength, 1) := by decide +kernel
theorem dX2_change_15 : decode cX2_change 15 = .ok (.if_icmp .ge 10, 3) := by decide +kernel
theorem dX2_change_18 : decode cX2_change 18 = .ok (.aload_n 0, 1) := by decide +kernel
theorem dX2_change_19 : decode cX2_change 19 = .ok (.getfield 9, 3) := by decide +kernel
theorem dX2_change_22 : decode cX2_change 22 = .ok (.iload_n 3, 1) := by decide +kernel
theorem dX2_change_23 : decode cX2_change 23 = .ok (.iload_n 2, 1) := by decide +kernel
theorem dX2_change_24 : decode cX2_change 24 = .ok (.iastore, 1) := by decide +kernel
theorem dX2_change_25 : decode cX2_change 25 = .ok (.return_, 1) := by decide +kernel
theorem dX2_indexOf_0 : decode cX2_indexOf 0 = .ok (.iconst 0, 1) := by decide +kernel
theorem dX2_indexOf_1 : decode cX2_indexOf 1 = .ok (.istore_n 1, 1) := by decide +kernel
theorem dX2_indexOf_2 : decode cX2_indexOf 2 = .ok (.iload_n 1, 1) := by decide +kernel
theorem dX2_indexOf_3 : decode cX2_indexOf 3 = .ok (.getstatic 22, 3) := by decide +kernel
theorem dX2_indexOf_6 : decode cX2_indexOf 6 = .ok (.arraylength, 1) := by decide +kernel
theorem dX2_indexOf_7 : decode cX2_indexOf 7 = .ok (.if_icmp .ge 20, 3) := by decide +kernel
theorem dX2_indexOf_10 : decode cX2_indexOf 10 = .ok (.getstatic 22, 3) := by decide +kernel
theorem dX2_indexOf_13 : decode cX2_indexOf 13 = .ok (.iload_n 1, 1) := by decide +kernel
theorem dX2_indexOf_14 : decode cX2_indexOf 14 = .ok (.caload, 1) := by decide +kernel
theorem dX2_indexOf_15 : decode cX2_indexOf 15 = .ok (.iload_n 0, 1) := by decide +kernel
theorem dX2_indexOf_16 : decode cX2_indexOf 16 = .ok (.if_icmp .ne 5, 3) := by decide +kernel
theorem dX2_indexOf_19 : decode cX2_indexOf 19 = .ok (.iload_n 1, 1) := by decide +kernel
theorem dX2_indexOf_20 : decode cX2_indexOf 20 = .ok (.ireturn, 1) := by decide +kernel
theorem dX2_indexOf_21 : decode cX2_indexOf 21 = .ok (.iinc 1 1, 3) := by decide +kernel
theorem dX2_indexOf_24 : decode cX2_indexOf 24 = .ok (.goto (-22), 3) := by decide +kernel
theorem dX2_indexOf_27 : decode cX2_indexOf 27 = .ok (.iconst (-1), 1) := by decide +kernel
theorem dX2_indexOf_28 : decode cX2_indexOf 28 = .ok (.ireturn, 1) := by decide +kernel
theorem dX3_init_0 : decode cX3_init 0 = .ok (.aload_n 0, 1) := by decide +kernel
theorem dX3_init_1 : decode cX3_init 1 = .ok (.invokespecial 3, 3) := by decide +kernel
theorem dX3_init_4 : decode cX3_init 4 = .ok (.aload_n 0, 1) := by decide +kernel
theorem dX3_init_5 : decode cX3_init 5 = .ok (.bipush 40, 2) := by decide +kernel
theorem dX3_init_7 : decode cX3_init 7 = .ok (.newarray .int, 2) := by decide +kernel
theorem dX3_init_9 : decode cX3_init 9 = .ok (.putfield 9, 3) := by decide +kernel
theorem dX3_init_12 : decode cX3_init 12 = .ok (.aload_n 0, 1) := by decide +kernel
theorem dX3_init_13 : decode cX3_init 13 = .ok (.bipush 40, 2) := by decide +kernel
theorem dX3_init_15 : decode cX3_init 15 = .ok (.newarray .int, 2) := by decide +kernel
theorem dX3_init_17 : decode cX3_init 17 = .ok (.putfield 15, 3) := by decide +kernel
theorem dX3_init_20 : decode cX3_init 20 = .ok (.aload_n 0, 1) := by decide +kernel
theorem dX3_init_21 : decode cX3_init 21 = .ok (.bipush 60, 2) := by decide +kernel
theorem dX3_init_23 : decode cX3_init 23 = .ok (.newarray .int, 2) := by decide +kernel
theorem dX3_init_25 : decode cX3_init 25 = .ok (.putfield 18, 3) := by decide +kernel
theorem dX3_init_28 : decode cX3_init 28 = .ok (.return_, 1) := by decide +kernel
theorem dX3_isFull_0 : decode cX3_isFull 0 = .ok (.aload_n 0, 1) := by decide +kernel
theorem dX3_isFull_1 : decode cX3_isFull 1 = .ok (.getfield 21, 3) := by decide +kernel
theorem dX3_isFull_4 : decode cX3_isFull 4 = .ok (.bipush 40, 2) := by decide +kernel
theorem dX3_isFull_6 : decode cX3_isFull 6 = .ok (.if_icmp .lt 7, 3) := by decide +kernel
theorem dX3_isFull_9 : decode cX3_isFull 9 = .ok (.iconst 1, 1) := by decide +kernel
theorem dX3_isFull_10 : decode cX3_isFull 10 = .ok (.goto 4, 3) := by decide +kernel
theorem dX3_isFull_13 : decode cX3_isFull 13 = .ok (.iconst 0, 1) := by decide +kernel
theorem dX3_isFull_14 : decode cX3_isFull 14 = .ok (.ireturn, 1) := by decide +kernel
theorem dX3_addSample_0 : decode cX3_addSample 0 = .ok (.aload_n 0, 1) := by decide +kernel
theorem dX3_addSample_1 : decode cX3_addSample 1 = .ok (.invokevirtual 25, 3) := by decide +kernel
theorem dX3_addSample_4 : decode cX3_addSample 4 = .ok (.ifCond .eq 4, 3) := by decide +kernel
theorem dX3_addSample_7 : decode cX3_addSample 7 = .ok (.return_, 1) := by decide +kernel
theorem dX3_addSample_8 : decode cX3_addSample 8 = .ok (.aload_n 0, 1) := by decide +kernel
theorem dX3_addSample_9 : decode cX3_addSample 9 = .ok (.getfield 9, 3) := by decide +kernel
theorem dX3_addSample_12 : decode cX3_addSample 12 = .ok (.aload_n 0, 1) := by decide +kernel
theorem dX3_addSample_13 : decode cX3_addSample 13 = .ok (.getfield 21, 3) := by decide +kernel
theorem dX3_addSample_16 : decode cX3_addSample 16 = .ok (.iload_n 1, 1) := by decide +kernel
theorem dX3_addSample_17 : decode cX3_addSample 17 = .ok (.iastore, 1) := by decide +kernel
theorem dX3_addSample_18 : decode cX3_addSample 18 = .ok (.aload_n 0, 1) := by decide +kernel
theorem dX3_addSample_19 : decode cX3_addSample 19 = .ok (.getfield 15, 3) := by decide +kernel
theorem dX3_addSample_22 : decode cX3_addSample 22 = .ok (.aload_n 0, 1) := by decide +kernel
theorem dX3_addSample_23 : decode cX3_addSample 23 = .ok (.getfield 21, 3) := by decide +kernel
theorem dX3_addSample_26 : decode cX3_addSample 26 = .ok (.iload_n 2, 1) := by decide +kernel
theorem dX3_addSample_27 : decode cX3_addSample 27 = .ok (.iastore, 1) := by decide +kernel
theorem dX3_addSample_28 : decode cX3_addSample 28 = .ok (.aload_n 0, 1) := by decide +kernel
theorem dX3_addSample_29 : decode cX3_addSample 29 = .ok (.dup, 1) := by decide +kernel
theorem dX3_addSample_30 : decode cX3_addSample 30 = .ok (.getfield 21, 3) := by decide +kernel
theorem dX3_addSample_33 : decode cX3_addSample 33 = .ok (.iconst 1, 1) := by decide +kernel
theorem dX3_addSample_34 : decode cX3_addSample 34 = .ok (.iadd, 1) := by decide +kernel
theorem dX3_addSample_35 : decode cX3_addSample 35 = .ok (.putfield 21, 3) := by decide +kernel
theorem dX3_addSample_38 : decode cX3_addSample 38 = .ok (.iconst 0, 1) := by decide +kernel
theorem dX3_addSample_39 : decode cX3_addSample 39 = .ok (.istore_n 3, 1) := by decide +kernel
theorem dX3_addSample_40 : decode cX3_addSample 40 = .ok (.iload_n 3, 1) := by decide +kernel
theorem dX3_addSample_41 : decode cX3_addSample 41 = .ok (.bipush 60, 2) := by decide +kernel
theorem dX3_addSample_43 : decode cX3_addSample 43 = .ok (.if_icmp .ge 16, 3) := by decide +kernel
theorem dX3_addSample_46 : decode cX3_addSample 46 = .ok (.aload_n 0, 1) := by decide +kernel
theorem dX3_addSample_47 : decode cX3_addSample 47 = .ok (.getfield 18, 3) := by decide +kernel
theorem dX3_addSample_50 : decode cX3_addSample 50 = .ok (.iload_n 3, 1) := by decide +kernel
theorem dX3_addSample_51 : decode cX3_addSample 51 = .ok (.iconst (-1), 1) := by decide +kernel
theorem dX3_addSample_52 : decode cX3_addSample 52 = .ok (.iastore, 1) := by decide +kernel
theorem dX3_addSample_53 : decode cX3_addSample 53 = .ok (.iinc 3 1, 3) := by decide +kernel
theorem dX3_addSample_56 : decode cX3_addSample 56 = .ok (.goto (-16), 3) := by decide +kernel
theorem dX3_addSample_59 : decode cX3_addSample 59 = .ok (.return_, 1) := by decide +kernel
theorem dX3_estimate_0 : decode cX3_estimate 0 = .ok (.iload_n 1, 1) := by decide +kernel
theorem dX3_estimate_1 : decode cX3_estimate 1 = .ok (.invokestatic 29, 3) := by decide +kernel
theorem dX3_estimate_4 : decode cX3_estimate 4 = .ok (.ifCond .ne 5, 3) := by decide +kernel
theorem dX3_estimate_7 : decode cX3_estimate 7 = .ok (.iconst 0, 1) := by decide +kernel
theorem dX3_estimate_8 : decode cX3_estimate 8 = .ok (.ireturn, 1) := by decide +kernel
theorem dX3_estimate_9 : decode cX3_estimate 9 = .ok (.aload_n 0, 1) := by decide +kernel
theorem dX3_estimate_10 : decode cX3_estimate 10 = .ok (.getfield 18, 3) := by decide +kernel
theorem dX3_estimate_13 : decode cX3_estimate 13 = .ok (.iload_n 1, 1) := by decide +kernel
theorem dX3_estimate_14 : decode cX3_estimate 14 = .ok (.iaload, 1) := by decide +kernel
theorem dX3_estimate_15 : decode cX3_estimate 15 = .ok (.iconst (-1), 1) := by decide +kernel
theorem dX3_estimate_16 : decode cX3_estimate 16 = .ok (.if_icmp .ne 17, 3) := by decide +kernel
theorem dX3_estimate_19 : decode cX3_estimate 19 = .ok (.aload_n 0, 1) := by decide +kernel
theorem dX3_estimate_20 : decode cX3_estimate 20 = .ok (.getfield 18, 3) := by decide +kernel
theorem dX3_estimate_23 : decode cX3_estimate 23 = .ok (.iload_n 1, 1) := by decide +kernel
theorem dX3_estimate_24 : decode cX3_estimate 24 = .ok (.aload_n 0, 1) := by decide +kernel
theorem dX3_estimate_25 : decode cX3_estimate 25 = .ok (.iload_n 1, 1) := by decide +kernel
theorem dX3_estimate_26 : decode cX3_estimate 26 = .ok (.invokevirtual 33, 3) := by decide +kernel
theorem dX3_estimate_29 : decode cX3_estimate 29 = .ok (.invokestatic 37, 3) := by decide +kernel
theorem dX3_estimate_32 : decode cX3_estimate 32 = .ok (.iastore, 1) := by decide +kernel
theorem dX3_estimate_33 : decode cX3_estimate 33 = .ok (.aload_n 0, 1) := by decide +kernel
theorem dX3_estimate_34 : decode cX3_estimate 34 = .ok (.getfield 18, 3) := by decide +kernel
theorem dX3_estimate_37 : decode cX3_estimate 37 = .ok (.iload_n 1, 1) := by decide +kernel
theorem dX3_estimate_38 : decode cX3_estimate 38 = .ok (.iaload, 1) := by decide +kernel
theorem dX3_estimate_39 : decode cX3_estimate 39 = .ok (.ireturn, 1) := by decide +kernel
theorem dX3_valueOf_0 : decode cX3_valueOf 0 = .ok (.aload_n 0, 1) := by decide +kernel
theorem dX3_valueOf_1 : decode cX3_valueOf 1 = .ok (.iload_n 1, 1) := by decide +kernel
theorem dX3_valueOf_2 : decode cX3_valueOf 2 = .ok (.invokevirtual 41, 3) := by decide +kernel
theorem dX3_valueOf_5 : decode cX3_valueOf 5 = .ok (.iload_n 2, 1) := by decide +kernel
theorem dX3_valueOf_6 : decode cX3_valueOf 6 = .ok (.imul, 1) := by decide +kernel
theorem dX3_valueOf_7 : decode cX3_valueOf 7 = .ok (.sipush 200, 3) := by decide +kernel
theorem dX3_valueOf_10 : decode cX3_valueOf 10 = .ok (.isub, 1) := by decide +kernel
theorem dX3_valueOf_11 : decode cX3_valueOf 11 = .ok (.istore_n 3, 1) := by decide +kernel
theorem dX3_valueOf_12 : decode cX3_valueOf 12 = .ok (.iload_n 3, 1) := by decide +kernel
theorem dX3_valueOf_13 : decode cX3_valueOf 13 = .ok (.iconst 0, 1) := by decide +kernel
theorem dX3_valueOf_14 : decode cX3_valueOf 14 = .ok (.invokestatic 45, 3) := by decide +kernel
theorem dX3_valueOf_17 : decode cX3_valueOf 17 = .ok (.iload_n 1, 1) := by decide +kernel
theorem dX3_valueOf_18 : decode cX3_valueOf 18 = .ok (.invokestatic 51, 3) := by decide +kernel
theorem dX3_valueOf_21 : decode cX3_valueOf 21 = .ok (.isub, 1) := by decide +kernel
theorem dX3_valueOf_22 : decode cX3_valueOf 22 = .ok (.ireturn, 1) := by decide +kernel
theorem dX3_meanFor_0 : decode cX3_meanFor 0 = .ok (.dconst 0, 1) := by decide +kernel
theorem dX3_meanFor_1 : decode cX3_meanFor 1 = .ok (.dstore_n 2, 1) := by decide +kernel
theorem dX3_meanFor_2 : decode cX3_meanFor 2 = .ok (.iconst 0, 1) := by decide +kernel
theorem dX3_meanFor_3 : decode cX3_meanFor 3 = .ok (.istore 4, 2) := by decide +kernel
theorem dX3_meanFor_5 : decode cX3_meanFor 5 = .ok (.iconst 0, 1) := by decide +kernel
theorem dX3_meanFor_6 : decode cX3_meanFor 6 = .ok (.istore 5, 2) := by decide +kernel
theorem dX3_meanFor_8 : decode cX3_meanFor 8 = .ok (.iload 5, 2) := by decide +kernel
theorem dX3_meanFor_10 : decode cX3_meanFor 10 = .ok (.aload_n 0, 1) := by decide +kernel
theorem dX3_meanFor_11 : decode cX3_meanFor 11 = .ok (.getfield 21, 3) := by decide +kernel
theorem dX3_meanFor_14 : decode cX3_meanFor 14 = .ok (.if_icmp .ge 41, 3) := by decide +kernel
theorem dX3_meanFor_17 : decode cX3_meanFor 17 = .ok (.iload 5, 2) := by decide +kernel
theorem dX3_meanFor_19 : decode cX3_meanFor 19 = .ok (.bipush 40, 2) := by decide +kernel
theorem dX3_meanFor_21 : decode cX3_meanFor 21 = .ok (.if_icmp .ge 34, 3) := by decide +kernel
theorem dX3_meanFor_24 : decode cX3_meanFor 24 = .ok (.aload_n 0, 1) := by decide +kernel
theorem dX3_meanFor_25 : decode cX3_meanFor 25 = .ok (.getfield 9, 3) := by decide +kernel
theorem dX3_meanFor_28 : decode cX3_meanFor 28 = .ok (.iload 5, 2) := by decide +kernel
theorem dX3_meanFor_30 : decode cX3_meanFor 30 = .ok (.iaload, 1) := by decide +kernel
theorem dX3_meanFor_31 : decode cX3_meanFor 31 = .ok (.iload_n 1, 1) := by decide +kernel
theorem dX3_meanFor_32 : decode cX3_meanFor 32 = .ok (.if_icmp .ne 17, 3) := by decide +kernel
theorem dX3_meanFor_35 : decode cX3_meanFor 35 = .ok (.dload_n 2, 1) := by decide +kernel
theorem dX3_meanFor_36 : decode cX3_meanFor 36 = .ok (.aload_n 0, 1) := by decide +kernel
theorem dX3_meanFor_37 : decode cX3_meanFor 37 = .ok (.getfield 15, 3) := by decide +kernel
theorem dX3_meanFor_40 : decode cX3_meanFor 40 = .ok (.iload 5, 2) := by decide +kernel
theorem dX3_meanFor_42 : decode cX3_meanFor 42 = .ok (.iaload, 1) := by decide +kernel
theorem dX3_meanFor_43 : decode cX3_meanFor 43 = .ok (.i2d, 1) := by decide +kernel
theorem dX3_meanFor_44 : decode cX3_meanFor 44 = .ok (.dadd, 1) := by decide +kernel
theorem dX3_meanFor_45 : decode cX3_meanFor 45 = .ok (.dstore_n 2, 1) := by decide +kernel
theorem dX3_meanFor_46 : decode cX3_meanFor 46 = .ok (.iinc 4 1, 3) := by decide +kernel
theorem dX3_meanFor_49 : decode cX3_meanFor 49 = .ok (.iinc 5 1, 3) := by decide +kernel
theorem dX3_meanFor_52 : decode cX3_meanFor 52 = .ok (.goto (-44), 3) := by decide +kernel
theorem dX3_meanFor_55 : decode cX3_meanFor 55 = .ok (.iload 4, 2) := by decide +kernel
theorem dX3_meanFor_57 : decode cX3_meanFor 57 = .ok (.ifCond .le 11, 3) := by decide +kernel
theorem dX3_meanFor_60 : decode cX3_meanFor 60 = .ok (.dload_n 2, 1) := by decide +kernel
theorem dX3_meanFor_61 : decode cX3_meanFor 61 = .ok (.iload 4, 2) := by decide +kernel
theorem dX3_meanFor_63 : decode cX3_meanFor 63 = .ok (.i2d, 1) := by decide +kernel
theorem dX3_meanFor_64 : decode cX3_meanFor 64 = .ok (.ddiv, 1) := by decide +kernel
theorem dX3_meanFor_65 : decode cX3_meanFor 65 = .ok (.goto 8, 3) := by decide +kernel
theorem dX3_meanFor_68 : decode cX3_meanFor 68 = .ok (.aload_n 0, 1) := by decide +kernel
theorem dX3_meanFor_69 : decode cX3_meanFor 69 = .ok (.iload_n 1, 1) := by decide +kernel
theorem dX3_meanFor_70 : decode cX3_meanFor 70 = .ok (.invokevirtual 54, 3) := by decide +kernel
theorem dX3_meanFor_73 : decode cX3_meanFor 73 = .ok (.dreturn, 1) := by decide +kernel
theorem dX3_meanByDistance_0 : decode cX3_meanByDistance 0 = .ok (.dconst 0, 1) := by decide +kernel
theorem dX3_meanByDistance_1 : decode cX3_meanByDistance 1 = .ok (.dstore_n 2, 1) := by decide +kernel
theorem dX3_meanByDistance_2 : decode cX3_meanByDistance 2 = .ok (.dconst 0, 1) := by decide +kernel
theorem dX3_meanByDistance_3 : decode cX3_meanByDistance 3 = .ok (.dstore 4, 2) := by decide +kernel
theorem dX3_meanByDistance_5 : decode cX3_meanByDistance 5 = .ok (.iconst 0, 1) := by decide +kernel
theorem dX3_meanByDistance_6 : decode cX3_meanByDistance 6 = .ok (.istore 6, 2) := by decide +kernel
theorem dX3_meanByDistance_8 : decode cX3_meanByDistance 8 = .ok (.iload 6, 2) := by decide +kernel
theorem dX3_meanByDistance_10 : decode cX3_meanByDistance 10 = .ok (.aload_n 0, 1) := by decide +kernel
theorem dX3_meanByDistance_11 : decode cX3_meanByDistance 11 = .ok (.getfield 21, 3) := by decide +kernel
theorem dX3_meanByDistance_14 : decode cX3_meanByDistance 14 = .ok (.if_icmp .ge 62, 3) := by decide +kernel
theorem dX3_meanByDistance_17 : decode cX3_meanByDistance 17 = .ok (.iload 6, 2) := by decide +kernel
theorem dX3_meanByDistance_19 : decode cX3_meanByDistance 19 = .ok (.bipush 40, 2) := by decide +kernel
theorem dX3_meanByDistance_21 : decode cX3_meanByDistance 21 = .ok (.if_icmp .ge 55, 3) := by decide +kernel
theorem dX3_meanByDistance_24 : decode cX3_meanByDistance 24 = .ok (.iload_n 1, 1) := by decide +kernel
theorem dX3_meanByDistance_25 : decode cX3_meanByDistance 25 = .ok (.aload_n 0, 1) := by decide +kernel
theorem dX3_meanByDistance_26 : decode cX3_meanByDistance 26 = .ok (.getfield 9, 3) := by decide +kernel
theorem dX3_meanByDistance_29 : decode cX3_meanByDistance 29 = .ok (.iload 6, 2) := by decide +kernel
theorem dX3_meanByDistance_31 : decode cX3_meanByDistance 31 = .ok (.iaload, 1) := by decide +kernel
theorem dX3_meanByDistance_32 : decode cX3_meanByDistance 32 = .ok (.invokestatic 57, 3) := by decide +kernel
theorem dX3_meanByDistance_35 : decode cX3_meanByDistance 35 = .ok (.istore 7, 2) := by decide +kernel
theorem dX3_meanByDistance_37 : decode cX3_meanByDistance 37 = .ok (.iload 7, 2) := by decide +kernel
theorem dX3_meanByDistance_39 : decode cX3_meanByDistance 39 = .ok (.ifCond .le 31, 3) := by decide +kernel
theorem dX3_meanByDistance_42 : decode cX3_meanByDistance 42 = .ok (.dconst 1, 1) := by decide +kernel
theorem dX3_meanByDistance_43 : decode cX3_meanByDistance 43 = .ok (.iload 7, 2) := by decide +kernel
theorem dX3_meanByDistance_45 : decode cX3_meanByDistance 45 = .ok (.i2d, 1) := by decide +kernel
theorem dX3_meanByDistance_46 : decode cX3_meanByDistance 46 = .ok (.ddiv, 1) := by decide +kernel
theorem dX3_meanByDistance_47 : decode cX3_meanByDistance 47 = .ok (.dstore 8, 2) := by decide +kernel
theorem dX3_meanByDistance_49 : decode cX3_meanByDistance 49 = .ok (.dload_n 2, 1) := by decide +kernel
theorem dX3_meanByDistance_50 : decode cX3_meanByDistance 50 = .ok (.dload 8, 2) := by decide +kernel
theorem dX3_meanByDistance_52 : decode cX3_meanByDistance 52 = .ok (.aload_n 0, 1) := by decide +kernel
theorem dX3_meanByDistance_53 : decode cX3_meanByDistance 53 = .ok (.getfield 15, 3) := by decide +kernel
theorem dX3_meanByDistance_56 : decode cX3_meanByDistance 56 = .ok (.iload 6, 2) := by decide +kernel
theorem dX3_meanByDistance_58 : decode cX3_meanByDistance 58 = .ok (.iaload, 1) := by decide +kernel
theorem dX3_meanByDistance_59 : decode cX3_meanByDistance 59 = .ok (.i2d, 1) := by decide +kernel
theorem dX3_meanByDistance_60 : decode cX3_meanByDistance 60 = .ok (.dmul, 1) := by decide +kernel
theorem dX3_meanByDistance_61 : decode cX3_meanByDistance 61 = .ok (.dadd, 1) := by decide +kernel
theorem dX3_meanByDistance_62 : decode cX3_meanByDistance 62 = .ok (.dstore_n 2, 1) := by decide +kernel
theorem dX3_meanByDistance_63 : decode cX3_meanByDistance 63 = .ok (.dload 4, 2) := by decide +kernel
theorem dX3_meanByDistance_65 : decode cX3_meanByDistance 65 = .ok (.dload 8, 2) := by decide +kernel
theorem dX3_meanByDistance_67 : decode cX3_meanByDistance 67 = .ok (.dadd, 1) := by decide +kernel
theorem dX3_meanByDistance_68 : decode cX3_meanByDistance 68 = .ok (.dstore 4, 2) := by decide +kernel
theorem dX3_meanByDistance_70 : decode cX3_meanByDistance 70 = .ok (.iinc 6 1, 3) := by decide +kernel
theorem dX3_meanByDistance_73 : decode cX3_meanByDistance 73 = .ok (.goto (-65), 3) := by decide +kernel
theorem dX3_meanByDistance_76 : decode cX3_meanByDistance 76 = .ok (.dload 4, 2) := by decide +kernel
theorem dX3_meanByDistance_78 : decode cX3_meanByDistance 78 = .ok (.dconst 0, 1) := by decide +kernel
theorem dX3_meanByDistance_79 : decode cX3_meanByDistance 79 = .ok (.dcmp .l, 1) := by decide +kernel
theorem dX3_meanByDistance_80 : decode cX3_meanByDistance 80 = .ok (.ifCond .le 10, 3) := by decide +kernel
theorem dX3_meanByDistance_83 : decode cX3_meanByDistance 83 = .ok (.dload_n 2, 1) := by decide +kernel
theorem dX3_meanByDistance_84 : decode cX3_meanByDistance 84 = .ok (.dload 4, 2) := by decide +kernel
theorem dX3_meanByDistance_86 : decode cX3_meanByDistance 86 = .ok (.ddiv, 1) := by decide +kernel
theorem dX3_meanByDistance_87 : decode cX3_meanByDistance 87 = .ok (.goto 4, 3) := by decide +kernel
theorem dX3_meanByDistance_90 : decode cX3_meanByDistance 90 = .ok (.dconst 0, 1) := by decide +kernel
theorem dX3_meanByDistance_91 : decode cX3_meanByDistance 91 = .ok (.dreturn, 1) := by decide +kernel
theorem dX3_squareBetween_0 : decode cX3_squareBetween 0 = .ok (.iload_n 0, 1) := by decide +kernel
theorem dX3_squareBetween_1 : decode cX3_squareBetween 1 = .ok (.bipush 10, 2) := by decide +kernel
theorem dX3_squareBetween_3 : decode cX3_squareBetween 3 = .ok (.irem, 1) := by decide +kernel
theorem dX3_squareBetween_4 : decode cX3_squareBetween 4 = .ok (.iload_n 1, 1) := by decide +kernel
theorem dX3_squareBetween_5 : decode cX3_squareBetween 5 = .ok (.bipush 10, 2) := by decide +kernel
theorem dX3_squareBetween_7 : decode cX3_squareBetween 7 = .ok (.irem, 1) := by decide +kernel
theorem dX3_squareBetween_8 : decode cX3_squareBetween 8 = .ok (.isub, 1) := by decide +kernel
theorem dX3_squareBetween_9 : decode cX3_squareBetween 9 = .ok (.istore_n 2, 1) := by decide +kernel
theorem dX3_squareBetween_10 : decode cX3_squareBetween 10 = .ok (.iload_n 0, 1) := by decide +kernel
theorem dX3_squareBetween_11 : decode cX3_squareBetween 11 = .ok (.bipush 10, 2) := by decide +kernel
theorem dX3_squareBetween_13 : decode cX3_squareBetween 13 = .ok (.idiv, 1) := by decide +kernel
theorem dX3_squareBetween_14 : decode cX3_squareBetween 14 = .ok (.iload_n 1, 1) := by decide +kernel
theorem dX3_squareBetween_15 : decode cX3_squareBetween 15 = .ok (.bipush 10, 2) := by decide +kernel
theorem dX3_squareBetween_17 : decode cX3_squareBetween 17 = .ok (.idiv, 1) := by decide +kernel
theorem dX3_squareBetween_18 : decode cX3_squareBetween 18 = .ok (.isub, 1) := by decide +kernel
theorem dX3_squareBetween_19 : decode cX3_squareBetween 19 = .ok (.istore_n 3, 1) := by decide +kernel
theorem dX3_squareBetween_20 : decode cX3_squareBetween 20 = .ok (.iload_n 2, 1) := by decide +kernel
theorem dX3_squareBetween_21 : decode cX3_squareBetween 21 = .ok (.iload_n 2, 1) := by decide +kernel
theorem dX3_squareBetween_22 : decode cX3_squareBetween 22 = .ok (.imul, 1) := by decide +kernel
theorem dX3_squareBetween_23 : decode cX3_squareBetween 23 = .ok (.iconst 4, 1) := by decide +kernel
theorem dX3_squareBetween_24 : decode cX3_squareBetween 24 = .ok (.iload_n 3, 1) := by decide +kernel
theorem dX3_squareBetween_25 : decode cX3_squareBetween 25 = .ok (.imul, 1) := by decide +kernel
theorem dX3_squareBetween_26 : decode cX3_squareBetween 26 = .ok (.iload_n 3, 1) := by decide +kernel
theorem dX3_squareBetween_27 : decode cX3_squareBetween 27 = .ok (.imul, 1) := by decide +kernel
theorem dX3_squareBetween_28 : decode cX3_squareBetween 28 = .ok (.iadd, 1) := by decide +kernel
theorem dX3_squareBetween_29 : decode cX3_squareBetween 29 = .ok (.ireturn, 1) := by decide +kernel
theorem dX4_init_0 : decode cX4_init 0 = .ok (.aload_n 0, 1) := by decide +kernel
theorem dX4_init_1 : decode cX4_init 1 = .ok (.invokespecial 3, 3) := by decide +kernel
theorem dX4_init_4 : decode cX4_init 4 = .ok (.aload_n 0, 1) := by decide +kernel
theorem dX4_init_5 : decode cX4_init 5 = .ok (.iconst 4, 1) := by decide +kernel
theorem dX4_init_6 : decode cX4_init 6 = .ok (.newarray .int, 2) := by decide +kernel
theorem dX4_init_8 : decode cX4_init 8 = .ok (.putfield 9, 3) := by decide +kernel
theorem dX4_init_11 : decode cX4_init 11 = .ok (.aload_n 0, 1) := by decide +kernel
theorem dX4_init_12 : decode cX4_init 12 = .ok (.bipush 60, 2) := by decide +kernel
theorem dX4_init_14 : decode cX4_init 14 = .ok (.newarray .int, 2) := by decide +kernel
theorem dX4_init_16 : decode cX4_init 16 = .ok (.putfield 15, 3) := by decide +kernel
theorem dX4_init_19 : decode cX4_init 19 = .ok (.aload_n 0, 1) := by decide +kernel
theorem dX4_init_20 : decode cX4_init 20 = .ok (.iconst 1, 1) := by decide +kernel
theorem dX4_init_21 : decode cX4_init 21 = .ok (.putfield 18, 3) := by decide +kernel
theorem dX4_init_24 : decode cX4_init 24 = .ok (.aload_n 0, 1) := by decide +kernel
theorem dX4_init_25 : decode cX4_init 25 = .ok (.aload_n 1, 1) := by decide +kernel
theorem dX4_init_26 : decode cX4_init 26 = .ok (.putfield 22, 3) := by decide +kernel
theorem dX4_init_29 : decode cX4_init 29 = .ok (.aload_n 0, 1) := by decide +kernel
theorem dX4_init_30 : decode cX4_init 30 = .ok (.aload_n 2, 1) := by decide +kernel
theorem dX4_init_31 : decode cX4_init 31 = .ok (.putfield 26, 3) := by decide +kernel
theorem dX4_init_34 : decode cX4_init 34 = .ok (.return_, 1) := by decide +kernel
theorem dX4_isFull_0 : decode cX4_isFull 0 = .ok (.aload_n 0, 1) := by decide +kernel
theorem dX4_isFull_1 : decode cX4_isFull 1 = .ok (.getfield 30, 3) := by decide +kernel
theorem dX4_isFull_4 : decode cX4_isFull 4 = .ok (.iconst 4, 1) := by decide +kernel
theorem dX4_isFull_5 : decode cX4_isFull 5 = .ok (.if_icmp .lt 7, 3) := by decide +kernel
theorem dX4_isFull_8 : decode cX4_isFull 8 = .ok (.iconst 1, 1) := by decide +kernel
theorem dX4_isFull_9 : decode cX4_isFull 9 = .ok (.goto 4, 3) := by decide +kernel
theorem dX4_isFull_12 : decode cX4_isFull 12 = .ok (.iconst 0, 1) := by decide +kernel
theorem dX4_isFull_13 : decode cX4_isFull 13 = .ok (.ireturn, 1) := by decide +kernel
theorem dX4_lastPrice_0 : decode cX4_lastPrice 0 = .ok (.aload_n 0, 1) := by decide +kernel
theorem dX4_lastPrice_1 : decode cX4_lastPrice 1 = .ok (.getfield 30, 3) := by decide +kernel
theorem dX4_lastPrice_4 : decode cX4_lastPrice 4 = .ok (.ifCond .le 25, 3) := by decide +kernel
theorem dX4_lastPrice_7 : decode cX4_lastPrice 7 = .ok (.aload_n 0, 1) := by decide +kernel
theorem dX4_lastPrice_8 : decode cX4_lastPrice 8 = .ok (.getfield 30, 3) := by decide +kernel
theorem dX4_lastPrice_11 : decode cX4_lastPrice 11 = .ok (.iconst 4, 1) := by decide +kernel
theorem dX4_lastPrice_12 : decode cX4_lastPrice 12 = .ok (.if_icmp .gt 17, 3) := by decide +kernel
theorem dX4_lastPrice_15 : decode cX4_lastPrice 15 = .ok (.aload_n 0, 1) := by decide +kernel
theorem dX4_lastPrice_16 : decode cX4_lastPrice 16 = .ok (.getfield 9, 3) := by decide +kernel
theorem dX4_lastPrice_19 : decode cX4_lastPrice 19 = .ok (.aload_n 0, 1) := by decide +kernel
theorem dX4_lastPrice_20 : decode cX4_lastPrice 20 = .ok (.getfield 30, 3) := by decide +kernel
theorem dX4_lastPrice_23 : decode cX4_lastPrice 23 = .ok (.iconst 1, 1) := by decide +kernel
theorem dX4_lastPrice_24 : decode cX4_lastPrice 24 = .ok (.isub, 1) := by decide +kernel
theorem dX4_lastPrice_25 : decode cX4_lastPrice 25 = .ok (.iaload, 1) := by decide +kernel
theorem dX4_lastPrice_26 : decode cX4_lastPrice 26 = .ok (.goto 4, 3) := by decide +kernel
theorem dX4_lastPrice_29 : decode cX4_lastPrice 29 = .ok (.iconst (-1), 1) := by decide +kernel
theorem dX4_lastPrice_30 : decode cX4_lastPrice 30 = .ok (.ireturn, 1) := by decide +kernel
theorem dX4_addPrice_0 : decode cX4_addPrice 0 = .ok (.aload_n 0, 1) := by decide +kernel
theorem dX4_addPrice_1 : decode cX4_addPrice 1 = .ok (.invokevirtual 34, 3) := by decide +kernel
theorem dX4_addPrice_4 : decode cX4_addPrice 4 = .ok (.ifCond .ne 28, 3) := by decide +kernel
theorem dX4_addPrice_7 : decode cX4_addPrice 7 = .ok (.aload_n 0, 1) := by decide +kernel
theorem dX4_addPrice_8 : decode cX4_addPrice 8 = .ok (.getfield 9, 3) := by decide +kernel
theorem dX4_addPrice_11 : decode cX4_addPrice 11 = .ok (.aload_n 0, 1) := by decide +kernel
theorem dX4_addPrice_12 : decode cX4_addPrice 12 = .ok (.getfield 30, 3) := by decide +kernel
theorem dX4_addPrice_15 : decode cX4_addPrice 15 = .ok (.iload_n 1, 1) := by decide +kernel
theorem dX4_addPrice_16 : decode cX4_addPrice 16 = .ok (.iastore, 1) := by decide +kernel
theorem dX4_addPrice_17 : decode cX4_addPrice 17 = .ok (.aload_n 0, 1) := by decide +kernel
theorem dX4_addPrice_18 : decode cX4_addPrice 18 = .ok (.dup, 1) := by decide +kernel
theorem dX4_addPrice_19 : decode cX4_addPrice 19 = .ok (.getfield 30, 3) := by decide +kernel
theorem dX4_addPrice_22 : decode cX4_addPrice 22 = .ok (.iconst 1, 1) := by decide +kernel
theorem dX4_addPrice_23 : decode cX4_addPrice 23 = .ok (.iadd, 1) := by decide +kernel
theorem dX4_addPrice_24 : decode cX4_addPrice 24 = .ok (.putfield 30, 3) := by decide +kernel
theorem dX4_addPrice_27 : decode cX4_addPrice 27 = .ok (.aload_n 0, 1) := by decide +kernel
theorem dX4_addPrice_28 : decode cX4_addPrice 28 = .ok (.iconst 1, 1) := by decide +kernel
theorem dX4_addPrice_29 : decode cX4_addPrice 29 = .ok (.putfield 18, 3) := by decide +kernel
theorem dX4_addPrice_32 : decode cX4_addPrice 32 = .ok (.return_, 1) := by decide +kernel
theorem dX4_dropAll_0 : decode cX4_dropAll 0 = .ok (.aload_n 0, 1) := by decide +kernel
theorem dX4_dropAll_1 : decode cX4_dropAll 1 = .ok (.iconst 0, 1) := by decide +kernel
theorem dX4_dropAll_2 : decode cX4_dropAll 2 = .ok (.putfield 30, 3) := by decide +kernel
theorem dX4_dropAll_5 : decode cX4_dropAll 5 = .ok (.aload_n 0, 1) := by decide +kernel
theorem dX4_dropAll_6 : decode cX4_dropAll 6 = .ok (.iconst 1, 1) := by decide +kernel
theorem dX4_dropAll_7 : decode cX4_dropAll 7 = .ok (.putfield 18, 3) := by decide +kernel
theorem dX4_dropAll_10 : decode cX4_dropAll 10 = .ok (.return_, 1) := by decide +kernel
theorem dX4_forget_0 : decode cX4_forget 0 = .ok (.aload_n 0, 1) := by decide +kernel
theorem dX4_forget_1 : decode cX4_forget 1 = .ok (.iconst 1, 1) := by decide +kernel
theorem dX4_forget_2 : decode cX4_forget 2 = .ok (.putfield 18, 3) := by decide +kernel
theorem dX4_forget_5 : decode cX4_forget 5 = .ok (.return_, 1) := by decide +kernel
theorem dX4_refresh_0 : decode cX4_refresh 0 = .ok (.aload_n 0, 1) := by decide +kernel
theorem dX4_refresh_1 : decode cX4_refresh 1 = .ok (.getfield 18, 3) := by decide +kernel
theorem dX4_refresh_4 : decode cX4_refresh 4 = .ok (.ifCond .ne 4, 3) := by decide +kernel
theorem dX4_refresh_7 : decode cX4_refresh 7 = .ok (.return_, 1) := by decide +kernel
theorem dX4_refresh_8 : decode cX4_refresh 8 = .ok (.iconst 0, 1) := by decide +kernel
theorem dX4_refresh_9 : decode cX4_refresh 9 = .ok (.istore_n 1, 1) := by decide +kernel
theorem dX4_refresh_10 : decode cX4_refresh 10 = .ok (.iload_n 1, 1) := by decide +kernel
theorem dX4_refresh_11 : decode cX4_refresh 11 = .ok (.bipush 60, 2) := by decide +kernel
theorem dX4_refresh_13 : decode cX4_refresh 13 = .ok (.if_icmp .ge 16, 3) := by decide +kernel
theorem dX4_refresh_16 : decode cX4_refresh 16 = .ok (.aload_n 0, 1) := by decide +kernel
theorem dX4_refresh_17 : decode cX4_refresh 17 = .ok (.getfield 15, 3) := by decide +kernel
theorem dX4_refresh_20 : decode cX4_refresh 20 = .ok (.iload_n 1, 1) := by decide +kernel
theorem dX4_refresh_21 : decode cX4_refresh 21 = .ok (.iconst (-1), 1) := by decide +kernel
theorem dX4_refresh_22 : decode cX4_refresh 22 = .ok (.iastore, 1) := by decide +kernel
theorem dX4_refresh_23 : decode cX4_refresh 23 = .ok (.iinc 1 1, 3) := by decide +kernel
theorem dX4_refresh_26 : decode cX4_refresh 26 = .ok (.goto (-16), 3) := by decide +kernel
theorem dX4_refresh_29 : decode cX4_refresh 29 = .ok (.iconst 0, 1) := by decide +kernel
theorem dX4_refresh_30 : decode cX4_refresh 30 = .ok (.istore_n 1, 1) := by decide +kernel
theorem dX4_refresh_31 : decode cX4_refresh 31 = .ok (.iload_n 1, 1) := by decide +kernel
theorem dX4_refresh_32 : decode cX4_refresh 32 = .ok (.aload_n 0, 1) := by decide +kernel
theorem dX4_refresh_33 : decode cX4_refresh 33 = .ok (.getfield 30, 3) := by decide +kernel
theorem dX4_refresh_36 : decode cX4_refresh 36 = .ok (.if_icmp .ge 32, 3) := by decide +kernel
theorem dX4_refresh_39 : decode cX4_refresh 39 = .ok (.iload_n 1, 1) := by decide +kernel
theorem dX4_refresh_40 : decode cX4_refresh 40 = .ok (.iconst 4, 1) := by decide +kernel
theorem dX4_refresh_41 : decode cX4_refresh 41 = .ok (.if_icmp .ge 27, 3) := by decide +kernel
theorem dX4_refresh_44 : decode cX4_refresh 44 = .ok (.aload_n 0, 1) := by decide +kernel
theorem dX4_refresh_45 : decode cX4_refresh 45 = .ok (.getfield 26, 3) := by decide +kernel
theorem dX4_refresh_48 : decode cX4_refresh 48 = .ok (.aload_n 0, 1) := by decide +kernel
theorem dX4_refresh_49 : decode cX4_refresh 49 = .ok (.getfield 9, 3) := by decide +kernel
theorem dX4_refresh_52 : decode cX4_refresh 52 = .ok (.iload_n 1, 1) := by decide +kernel
theorem dX4_refresh_53 : decode cX4_refresh 53 = .ok (.iaload, 1) := by decide +kernel
theorem dX4_refresh_54 : decode cX4_refresh 54 = .ok (.invokevirtual 38, 3) := by decide +kernel
theorem dX4_refresh_57 : decode cX4_refresh 57 = .ok (.aload_n 0, 1) := by decide +kernel
theorem dX4_refresh_58 : decode cX4_refresh 58 = .ok (.iload_n 1, 1) := by decide +kernel
theorem dX4_refresh_59 : decode cX4_refresh 59 = .ok (.invokevirtual 44, 3) := by decide +kernel
theorem dX4_refresh_62 : decode cX4_refresh 62 = .ok (.iinc 1 1, 3) := by decide +kernel
theorem dX4_refresh_65 : decode cX4_refresh 65 = .ok (.goto (-34), 3) := by decide +kernel
theorem dX4_refresh_68 : decode cX4_refresh 68 = .ok (.aload_n 0, 1) := by decide +kernel
theorem dX4_refresh_69 : decode cX4_refresh 69 = .ok (.iconst 0, 1) := by decide +kernel
theorem dX4_refresh_70 : decode cX4_refresh 70 = .ok (.putfield 18, 3) := by decide +kernel
theorem dX4_refresh_73 : decode cX4_refresh 73 = .ok (.return_, 1) := by decide +kernel
theorem dX4_numberFor_0 : decode cX4_numberFor 0 = .ok (.iload_n 1, 1) := by decide +kernel
theorem dX4_numberFor_1 : decode cX4_numberFor 1 = .ok (.invokestatic 47, 3) := by decide +kernel
theorem dX4_numberFor_4 : decode cX4_numberFor 4 = .ok (.ifCond .eq 23, 3) := by decide +kernel
theorem dX4_numberFor_7 : decode cX4_numberFor 7 = .ok (.aload_n 0, 1) := by decide +kernel
theorem dX4_numberFor_8 : decode cX4_numberFor 8 = .ok (.getfield 22, 3) := by decide +kernel
theorem dX4_numberFor_11 : decode cX4_numberFor 11 = .ok (.iload_n 1, 1) := by decide +kernel
theorem dX4_numberFor_12 : decode cX4_numberFor 12 = .ok (.invokevirtual 51, 3) := by decide +kernel
theorem dX4_numberFor_15 : decode cX4_numberFor 15 = .ok (.ifCond .ne 12, 3) := by decide +kernel
theorem dX4_numberFor_18 : decode cX4_numberFor 18 = .ok (.aload_n 0, 1) := by decide +kernel
theorem dX4_numberFor_19 : decode cX4_numberFor 19 = .ok (.getfield 15, 3) := by decide +kernel
theorem dX4_numberFor_22 : decode cX4_numberFor 22 = .ok (.iload_n 1, 1) := by decide +kernel
theorem dX4_numberFor_23 : decode cX4_numberFor 23 = .ok (.iaload, 1) := by decide +kernel
theorem dX4_numberFor_24 : decode cX4_numberFor 24 = .ok (.goto 4, 3) := by decide +kernel
theorem dX4_numberFor_27 : decode cX4_numberFor 27 = .ok (.iconst (-1), 1) := by decide +kernel
theorem dX4_numberFor_28 : decode cX4_numberFor 28 = .ok (.ireturn, 1) := by decide +kernel
theorem dX4_numberFound_0 : decode cX4_numberFound 0 = .ok (.iconst 0, 1) := by decide +kernel
theorem dX4_numberFound_1 : decode cX4_numberFound 1 = .ok (.istore_n 2, 1) := by decide +kernel
theorem dX4_numberFound_2 : decode cX4_numberFound 2 = .ok (.iload_n 2, 1) := by decide +kernel
theorem dX4_numberFound_3 : decode cX4_numberFound 3 = .ok (.bipush 60, 2) := by decide +kernel
theorem dX4_numberFound_5 : decode cX4_numberFound 5 = .ok (.if_icmp .ge 36, 3) := by decide +kernel
theorem dX4_numberFound_8 : decode cX4_numberFound 8 = .ok (.aload_n 0, 1) := by decide +kernel
theorem dX4_numberFound_9 : decode cX4_numberFound 9 = .ok (.getfield 15, 3) := by decide +kernel
theorem dX4_numberFound_12 : decode cX4_numberFound 12 = .ok (.iload_n 2, 1) := by decide +kernel
theorem dX4_numberFound_13 : decode cX4_numberFound 13 = .ok (.iaload, 1) := by decide +kernel
theorem dX4_numberFound_14 : decode cX4_numberFound 14 = .ok (.ifCond .ge 21, 3) := by decide +kernel
theorem dX4_numberFound_17 : decode cX4_numberFound 17 = .ok (.aload_n 0, 1) := by decide +kernel
theorem dX4_numberFound_18 : decode cX4_numberFound 18 = .ok (.getfield 26, 3) := by decide +kernel
theorem dX4_numberFound_21 : decode cX4_numberFound 21 = .ok (.iload_n 2, 1) := by decide +kernel
theorem dX4_numberFound_22 : decode cX4_numberFound 22 = .ok (.invokevirtual 56, 3) := by decide +kernel
theorem dX4_numberFound_25 : decode cX4_numberFound 25 = .ok (.ifCond .eq 10, 3) := by decide +kernel
theorem dX4_numberFound_28 : decode cX4_numberFound 28 = .ok (.aload_n 0, 1) := by decide +kernel
theorem dX4_numberFound_29 : decode cX4_numberFound 29 = .ok (.getfield 15, 3) := by decide +kernel
theorem dX4_numberFound_32 : decode cX4_numberFound 32 = .ok (.iload_n 2, 1) := by decide +kernel
theorem dX4_numberFound_33 : decode cX4_numberFound 33 = .ok (.iload_n 1, 1) := by decide +kernel
theorem dX4_numberFound_34 : decode cX4_numberFound 34 = .ok (.iastore, 1) := by decide +kernel
theorem dX4_numberFound_35 : decode cX4_numberFound 35 = .ok (.iinc 2 1, 3) := by decide +kernel
theorem dX4_numberFound_38 : decode cX4_numberFound 38 = .ok (.goto (-36), 3) := by decide +kernel
theorem dX4_numberFound_41 : decode cX4_numberFound 41 = .ok (.return_, 1) := by decide +kernel
theorem dX5_init_0 : decode cX5_init 0 = .ok (.aload_n 0, 1) := by decide +kernel
theorem dX5_init_1 : decode cX5_init 1 = .ok (.invokespecial 3, 3) := by decide +kernel
theorem dX5_init_4 : decode cX5_init 4 = .ok (.aload_n 0, 1) := by decide +kernel
theorem dX5_init_5 : decode cX5_init 5 = .ok (.bipush 60, 2) := by decide +kernel
theorem dX5_init_7 : decode cX5_init 7 = .ok (.newarray .int, 2) := by decide +kernel
theorem dX5_init_9 : decode cX5_init 9 = .ok (.putfield 9, 3) := by decide +kernel
theorem dX5_init_12 : decode cX5_init 12 = .ok (.return_, 1) := by decide +kernel
theorem dX5_count_0 : decode cX5_count 0 = .ok (.aload_n 0, 1) := by decide +kernel
theorem dX5_count_1 : decode cX5_count 1 = .ok (.getfield 15, 3) := by decide +kernel
theorem dX5_count_4 : decode cX5_count 4 = .ok (.aload_n 0, 1) := by decide +kernel
theorem dX5_count_5 : decode cX5_count 5 = .ok (.getfield 19, 3) := by decide +kernel
theorem dX5_count_8 : decode cX5_count 8 = .ok (.iadd, 1) := by decide +kernel
theorem dX5_count_9 : decode cX5_count 9 = .ok (.aload_n 0, 1) := by decide +kernel
theorem dX5_count_10 : decode cX5_count 10 = .ok (.getfield 22, 3) := by decide +kernel
theorem dX5_count_13 : decode cX5_count 13 = .ok (.isub, 1) := by decide +kernel
theorem dX5_count_14 : decode cX5_count 14 = .ok (.ireturn, 1) := by decide +kernel
theorem dX5_sum_0 : decode cX5_sum 0 = .ok (.aload_n 0, 1) := by decide +kernel
theorem dX5_sum_1 : decode cX5_sum 1 = .ok (.getfield 25, 3) := by decide +kernel
theorem dX5_sum_4 : decode cX5_sum 4 = .ok (.aload_n 0, 1) := by decide +kernel
theorem dX5_sum_5 : decode cX5_sum 5 = .ok (.getfield 28, 3) := by decide +kernel
theorem dX5_sum_8 : decode cX5_sum 8 = .ok (.iadd, 1) := by decide +kernel
theorem dX5_sum_9 : decode cX5_sum 9 = .ok (.ireturn, 1) := by decide +kernel
theorem dX5_put_0 : decode cX5_put 0 = .ok (.aload_n 0, 1) := by decide +kernel
theorem dX5_put_1 : decode cX5_put 1 = .ok (.getfield 19, 3) := by decide +kernel
theorem dX5_put_4 : decode cX5_put 4 = .ok (.ifCond .lt 42, 3) := by decide +kernel
theorem dX5_put_7 : decode cX5_put 7 = .ok (.aload_n 0, 1) := by decide +kernel
theorem dX5_put_8 : decode cX5_put 8 = .ok (.getfield 19, 3) := by decide +kernel
theorem dX5_put_11 : decode cX5_put 11 = .ok (.bipush 60, 2) := by decide +kernel
theorem dX5_put_13 : decode cX5_put 13 = .ok (.if_icmp .ge 33, 3) := by decide +kernel
theorem dX5_put_16 : decode cX5_put 16 = .ok (.aload_n 0, 1) := by decide +kernel
theorem dX5_put_17 : decode cX5_put 17 = .ok (.getfield 9, 3) := by decide +kernel
theorem dX5_put_20 : decode cX5_put 20 = .ok (.aload_n 0, 1) := by decide +kernel
theorem dX5_put_21 : decode cX5_put 21 = .ok (.getfield 19, 3) := by decide +kernel
theorem dX5_put_24 : decode cX5_put 24 = .ok (.iload_n 1, 1) := by decide +kernel
theorem dX5_put_25 : decode cX5_put 25 = .ok (.iastore, 1) := by decide +kernel
theorem dX5_put_26 : decode cX5_put 26 = .ok (.aload_n 0, 1) := by decide +kernel
theorem dX5_put_27 : decode cX5_put 27 = .ok (.dup, 1) := by decide +kernel
theorem dX5_put_28 : decode cX5_put 28 = .ok (.getfield 28, 3) := by decide +kernel
theorem dX5_put_31 : decode cX5_put 31 = .ok (.iload_n 1, 1) := by decide +kernel
theorem dX5_put_32 : decode cX5_put 32 = .ok (.iadd, 1) := by decide +kernel
theorem dX5_put_33 : decode cX5_put 33 = .ok (.putfield 28, 3) := by decide +kernel
theorem dX5_put_36 : decode cX5_put 36 = .ok (.aload_n 0, 1) := by decide +kernel
theorem dX5_put_37 : decode cX5_put 37 = .ok (.dup, 1) := by decide +kernel
theorem dX5_put_38 : decode cX5_put 38 = .ok (.getfield 19, 3) := by decide +kernel
theorem dX5_put_41 : decode cX5_put 41 = .ok (.iconst 1, 1) := by decide +kernel
theorem dX5_put_42 : decode cX5_put 42 = .ok (.iadd, 1) := by decide +kernel
theorem dX5_put_43 : decode cX5_put 43 = .ok (.putfield 19, 3) := by decide +kernel
theorem dX5_put_46 : decode cX5_put 46 = .ok (.return_, 1) := by decide +kernel
theorem dX5_give_0 : decode cX5_give 0 = .ok (.aload_n 0, 1) := by decide +kernel
theorem dX5_give_1 : decode cX5_give 1 = .ok (.getfield 31, 3) := by decide +kernel
theorem dX5_give_4 : decode cX5_give 4 = .ok (.ifCond .eq 7, 3) := by decide +kernel
theorem dX5_give_7 : decode cX5_give 7 = .ok (.aload_n 0, 1) := by decide +kernel
theorem dX5_give_8 : decode cX5_give 8 = .ok (.invokevirtual 35, 3) := by decide +kernel
theorem dX5_give_11 : decode cX5_give 11 = .ok (.aload_n 0, 1) := by decide +kernel
theorem dX5_give_12 : decode cX5_give 12 = .ok (.getfield 15, 3) := by decide +kernel
theorem dX5_give_15 : decode cX5_give 15 = .ok (.ifCond .le 10, 3) := by decide +kernel
theorem dX5_give_18 : decode cX5_give 18 = .ok (.aload_n 0, 1) := by decide +kernel
theorem dX5_give_19 : decode cX5_give 19 = .ok (.invokevirtual 38, 3) := by decide +kernel
theorem dX5_give_22 : decode cX5_give 22 = .ok (.goto 7, 3) := by decide +kernel
theorem dX5_give_25 : decode cX5_give 25 = .ok (.aload_n 0, 1) := by decide +kernel
theorem dX5_give_26 : decode cX5_give 26 = .ok (.invokevirtual 42, 3) := by decide +kernel
theorem dX5_give_29 : decode cX5_give 29 = .ok (.ireturn, 1) := by decide +kernel
theorem dX5_heapUp_0 : decode cX5_heapUp 0 = .ok (.aload_n 0, 1) := by decide +kernel
theorem dX5_heapUp_1 : decode cX5_heapUp 1 = .ok (.aload_n 0, 1) := by decide +kernel
theorem dX5_heapUp_2 : decode cX5_heapUp 2 = .ok (.invokevirtual 45, 3) := by decide +kernel
theorem dX5_heapUp_5 : decode cX5_heapUp 5 = .ok (.putfield 15, 3) := by decide +kernel
theorem dX5_heapUp_8 : decode cX5_heapUp 8 = .ok (.aload_n 0, 1) := by decide +kernel
theorem dX5_heapUp_9 : decode cX5_heapUp 9 = .ok (.aload_n 0, 1) := by decide +kernel
theorem dX5_heapUp_10 : decode cX5_heapUp 10 = .ok (.invokevirtual 48, 3) := by decide +kernel
theorem dX5_heapUp_13 : decode cX5_heapUp 13 = .ok (.putfield 25, 3) := by decide +kernel
theorem dX5_heapUp_16 : decode cX5_heapUp 16 = .ok (.aload_n 0, 1) := by decide +kernel
theorem dX5_heapUp_17 : decode cX5_heapUp 17 = .ok (.aload_n 0, 1) := by decide +kernel
theorem dX5_heapUp_18 : decode cX5_heapUp 18 = .ok (.getfield 19, 3) := by decide +kernel
theorem dX5_heapUp_21 : decode cX5_heapUp 21 = .ok (.putfield 22, 3) := by decide +kernel
theorem dX5_heapUp_24 : decode cX5_heapUp 24 = .ok (.aload_n 0, 1) := by decide +kernel
theorem dX5_heapUp_25 : decode cX5_heapUp 25 = .ok (.iconst 0, 1) := by decide +kernel
theorem dX5_heapUp_26 : decode cX5_heapUp 26 = .ok (.putfield 28, 3) := by decide +kernel
theorem dX5_heapUp_29 : decode cX5_heapUp 29 = .ok (.return_, 1) := by decide +kernel
theorem dX5_giveOfHeap_0 : decode cX5_giveOfHeap 0 = .ok (.aload_n 0, 1) := by decide +kernel
theorem dX5_giveOfHeap_1 : decode cX5_giveOfHeap 1 = .ok (.getfield 15, 3) := by decide +kernel
theorem dX5_giveOfHeap_4 : decode cX5_giveOfHeap 4 = .ok (.ifCond .le 15, 3) := by decide +kernel
theorem dX5_giveOfHeap_7 : decode cX5_giveOfHeap 7 = .ok (.aload_n 0, 1) := by decide +kernel
theorem dX5_giveOfHeap_8 : decode cX5_giveOfHeap 8 = .ok (.getfield 25, 3) := by decide +kernel
theorem dX5_giveOfHeap_11 : decode cX5_giveOfHeap 11 = .ok (.aload_n 0, 1) := by decide +kernel
theorem dX5_giveOfHeap_12 : decode cX5_giveOfHeap 12 = .ok (.getfield 15, 3) := by decide +kernel
theorem dX5_giveOfHeap_15 : decode cX5_giveOfHeap 15 = .ok (.idiv, 1) := by decide +kernel
theorem dX5_giveOfHeap_16 : decode cX5_giveOfHeap 16 = .ok (.goto 4, 3) := by decide +kernel
theorem dX5_giveOfHeap_19 : decode cX5_giveOfHeap 19 = .ok (.iconst 0, 1) := by decide +kernel
theorem dX5_giveOfHeap_20 : decode cX5_giveOfHeap 20 = .ok (.istore_n 1, 1) := by decide +kernel
theorem dX5_giveOfHeap_21 : decode cX5_giveOfHeap 21 = .ok (.aload_n 0, 1) := by decide +kernel
theorem dX5_giveOfHeap_22 : decode cX5_giveOfHeap 22 = .ok (.dup, 1) := by decide +kernel
theorem dX5_giveOfHeap_23 : decode cX5_giveOfHeap 23 = .ok (.getfield 15, 3) := by decide +kernel
theorem dX5_giveOfHeap_26 : decode cX5_giveOfHeap 26 = .ok (.iconst 1, 1) := by decide +kernel
theorem dX5_giveOfHeap_27 : decode cX5_giveOfHeap 27 = .ok (.isub, 1) := by decide +kernel
theorem dX5_giveOfHeap_28 : decode cX5_giveOfHeap 28 = .ok (.putfield 15, 3) := by decide +kernel
theorem dX5_giveOfHeap_31 : decode cX5_giveOfHeap 31 = .ok (.aload_n 0, 1) := by decide +kernel
theorem dX5_giveOfHeap_32 : decode cX5_giveOfHeap 32 = .ok (.dup, 1) := by decide +kernel
theorem dX5_giveOfHeap_33 : decode cX5_giveOfHeap 33 = .ok (.getfield 25, 3) := by decide +kernel
theorem dX5_giveOfHeap_36 : decode cX5_giveOfHeap 36 = .ok (.iload_n 1, 1) := by decide +kernel
theorem dX5_giveOfHeap_37 : decode cX5_giveOfHeap 37 = .ok (.isub, 1) := by decide +kernel
theorem dX5_giveOfHeap_38 : decode cX5_giveOfHeap 38 = .ok (.putfield 25, 3) := by decide +kernel
theorem dX5_giveOfHeap_41 : decode cX5_giveOfHeap 41 = .ok (.iload_n 1, 1) := by decide +kernel
theorem dX5_giveOfHeap_42 : decode cX5_giveOfHeap 42 = .ok (.ireturn, 1) := by decide +kernel
theorem dX5_giveLayer_0 : decode cX5_giveLayer 0 = .ok (.aload_n 0, 1) := by decide +kernel
theorem dX5_giveLayer_1 : decode cX5_giveLayer 1 = .ok (.getfield 22, 3) := by decide +kernel
theorem dX5_giveLayer_4 : decode cX5_giveLayer 4 = .ok (.ifCond .lt 23, 3) := by decide +kernel
theorem dX5_giveLayer_7 : decode cX5_giveLayer 7 = .ok (.aload_n 0, 1) := by decide +kernel
theorem dX5_giveLayer_8 : decode cX5_giveLayer 8 = .ok (.getfield 22, 3) := by decide +kernel
theorem dX5_giveLayer_11 : decode cX5_giveLayer 11 = .ok (.aload_n 0, 1) := by decide +kernel
theorem dX5_giveLayer_12 : decode cX5_giveLayer 12 = .ok (.getfield 19, 3) := by decide +kernel
theorem dX5_giveLayer_15 : decode cX5_giveLayer 15 = .ok (.if_icmp .ge 12, 3) := by decide +kernel
theorem dX5_giveLayer_18 : decode cX5_giveLayer 18 = .ok (.aload_n 0, 1) := by decide +kernel
theorem dX5_giveLayer_19 : decode cX5_giveLayer 19 = .ok (.getfield 22, 3) := by decide +kernel
theorem dX5_giveLayer_22 : decode cX5_giveLayer 22 = .ok (.bipush 60, 2) := by decide +kernel
theorem dX5_giveLayer_24 : decode cX5_giveLayer 24 = .ok (.if_icmp .lt 5, 3) := by decide +kernel
theorem dX5_giveLayer_27 : decode cX5_giveLayer 27 = .ok (.iconst 0, 1) := by decide +kernel
theorem dX5_giveLayer_28 : decode cX5_giveLayer 28 = .ok (.ireturn, 1) := by decide +kernel
theorem dX5_giveLayer_29 : decode cX5_giveLayer 29 = .ok (.aload_n 0, 1) := by decide +kernel
theorem dX5_giveLayer_30 : decode cX5_giveLayer 30 = .ok (.getfield 9, 3) := by decide +kernel
theorem dX5_giveLayer_33 : decode cX5_giveLayer 33 = .ok (.aload_n 0, 1) := by decide +kernel
theorem dX5_giveLayer_34 : decode cX5_giveLayer 34 = .ok (.getfield 22, 3) := by decide +kernel
theorem dX5_giveLayer_37 : decode cX5_giveLayer 37 = .ok (.iaload, 1) := by decide +kernel
theorem dX5_giveLayer_38 : decode cX5_giveLayer 38 = .ok (.istore_n 1, 1) := by decide +kernel
theorem dX5_giveLayer_39 : decode cX5_giveLayer 39 = .ok (.aload_n 0, 1) := by decide +kernel
theorem dX5_giveLayer_40 : decode cX5_giveLayer 40 = .ok (.dup, 1) := by decide +kernel
theorem dX5_giveLayer_41 : decode cX5_giveLayer 41 = .ok (.getfield 28, 3) := by decide +kernel
theorem dX5_giveLayer_44 : decode cX5_giveLayer 44 = .ok (.iload_n 1, 1) := by decide +kernel
theorem dX5_giveLayer_45 : decode cX5_giveLayer 45 = .ok (.isub, 1) := by decide +kernel
theorem dX5_giveLayer_46 : decode cX5_giveLayer 46 = .ok (.putfield 28, 3) := by decide +kernel
theorem dX5_giveLayer_49 : decode cX5_giveLayer 49 = .ok (.aload_n 0, 1) := by decide +kernel
theorem dX5_giveLayer_50 : decode cX5_giveLayer 50 = .ok (.dup, 1) := by decide +kernel
theorem dX5_giveLayer_51 : decode cX5_giveLayer 51 = .ok (.getfield 22, 3) := by decide +kernel
theorem dX5_giveLayer_54 : decode cX5_giveLayer 54 = .ok (.iconst 1, 1) := by decide +kernel
theorem dX5_giveLayer_55 : decode cX5_giveLayer 55 = .ok (.iadd, 1) := by decide +kernel
theorem dX5_giveLayer_56 : decode cX5_giveLayer 56 = .ok (.putfield 22, 3) := by decide +kernel
theorem dX5_giveLayer_59 : decode cX5_giveLayer 59 = .ok (.iload_n 1, 1) := by decide +kernel
theorem dX5_giveLayer_60 : decode cX5_giveLayer 60 = .ok (.ireturn, 1) := by decide +kernel
theorem dX6_init_0 : decode cX6_init 0 = .ok (.aload_n 0, 1) := by decide +kernel
theorem dX6_init_1 : decode cX6_init 1 = .ok (.invokespecial 5, 3) := by decide +kernel
theorem dX6_init_4 : decode cX6_init 4 = .ok (.aload_n 0, 1) := by decide +kernel
theorem dX6_init_5 : decode cX6_init 5 = .ok (.bipush 10, 2) := by decide +kernel
theorem dX6_init_7 : decode cX6_init 7 = .ok (.newarray .int, 2) := by decide +kernel
theorem dX6_init_9 : decode cX6_init 9 = .ok (.putfield 11, 3) := by decide +kernel
theorem dX6_init_12 : decode cX6_init 12 = .ok (.aload_n 0, 1) := by decide +kernel
theorem dX6_init_13 : decode cX6_init 13 = .ok (.bipush 10, 2) := by decide +kernel
theorem dX6_init_15 : decode cX6_init 15 = .ok (.bipush 7, 2) := by decide +kernel
theorem dX6_init_17 : decode cX6_init 17 = .ok (.multianewarray 17 2, 4) := by decide +kernel
theorem dX6_init_21 : decode cX6_init 21 = .ok (.putfield 19, 3) := by decide +kernel
theorem dX6_init_24 : decode cX6_init 24 = .ok (.aload_n 0, 1) := by decide +kernel
theorem dX6_init_25 : decode cX6_init 25 = .ok (.bipush 10, 2) := by decide +kernel
theorem dX6_init_27 : decode cX6_init 27 = .ok (.bipush 7, 2) := by decide +kernel
theorem dX6_init_29 : decode cX6_init 29 = .ok (.multianewarray 17 2, 4) := by decide +kernel
theorem dX6_init_33 : decode cX6_init 33 = .ok (.putfield 22, 3) := by decide +kernel
theorem dX6_init_36 : decode cX6_init 36 = .ok (.aload_n 0, 1) := by decide +kernel
theorem dX6_init_37 : decode cX6_init 37 = .ok (.bipush 10, 2) := by decide +kernel
theorem dX6_init_39 : decode cX6_init 39 = .ok (.bipush 7, 2) := by decide +kernel
theorem dX6_init_41 : decode cX6_init 41 = .ok (.multianewarray 17 2, 4) := by decide +kernel
theorem dX6_init_45 : decode cX6_init 45 = .ok (.putfield 25, 3) := by decide +kernel
theorem dX6_init_48 : decode cX6_init 48 = .ok (.aload_n 0, 1) := by decide +kernel
theorem dX6_init_49 : decode cX6_init 49 = .ok (.bipush 10, 2) := by decide +kernel
theorem dX6_init_51 : decode cX6_init 51 = .ok (.newarray .int, 2) := by decide +kernel
theorem dX6_init_53 : decode cX6_init 53 = .ok (.putfield 28, 3) := by decide +kernel
theorem dX6_init_56 : decode cX6_init 56 = .ok (.aload_n 0, 1) := by decide +kernel
theorem dX6_init_57 : decode cX6_init 57 = .ok (.bipush 60, 2) := by decide +kernel
theorem dX6_init_59 : decode cX6_init 59 = .ok (.newarray .boolean, 2) := by decide +kernel
theorem dX6_init_61 : decode cX6_init 61 = .ok (.putfield 31, 3) := by decide +kernel
theorem dX6_init_64 : decode cX6_init 64 = .ok (.aload_n 0, 1) := by decide +kernel
theorem dX6_init_65 : decode cX6_init 65 = .ok (.aload_n 1, 1) := by decide +kernel
theorem dX6_init_66 : decode cX6_init 66 = .ok (.putfield 35, 3) := by decide +kernel
theorem dX6_init_69 : decode cX6_init 69 = .ok (.aload_n 0, 1) := by decide +kernel
theorem dX6_init_70 : decode cX6_init 70 = .ok (.aload_n 2, 1) := by decide +kernel
theorem dX6_init_71 : decode cX6_init 71 = .ok (.putfield 39, 3) := by decide +kernel
theorem dX6_init_74 : decode cX6_init 74 = .ok (.return_, 1) := by decide +kernel
theorem dX6_find_0 : decode cX6_find 0 = .ok (.iconst 0, 1) := by decide +kernel
theorem dX6_find_1 : decode cX6_find 1 = .ok (.istore_n 2, 1) := by decide +kernel
theorem dX6_find_2 : decode cX6_find 2 = .ok (.iload_n 2, 1) := by decide +kernel
theorem dX6_find_3 : decode cX6_find 3 = .ok (.bipush 10, 2) := by decide +kernel
theorem dX6_find_5 : decode cX6_find 5 = .ok (.if_icmp .ge 24, 3) := by decide +kernel
theorem dX6_find_8 : decode cX6_find 8 = .ok (.aload_n 0, 1) := by decide +kernel
theorem dX6_find_9 : decode cX6_find 9 = .ok (.iload_n 2, 1) := by decide +kernel
theorem dX6_find_10 : decode cX6_find 10 = .ok (.iload_n 1, 1) := by decide +kernel
theorem dX6_find_11 : decode cX6_find 11 = .ok (.invokevirtual 43, 3) := by decide +kernel
theorem dX6_find_14 : decode cX6_find 14 = .ok (.iload_n 2, 1) := by decide +kernel
theorem dX6_find_15 : decode cX6_find 15 = .ok (.ifCond .le 8, 3) := by decide +kernel
theorem dX6_find_18 : decode cX6_find 18 = .ok (.aload_n 0, 1) := by decide +kernel
theorem dX6_find_19 : decode cX6_find 19 = .ok (.iload_n 2, 1) := by decide +kernel
theorem dX6_find_20 : decode cX6_find 20 = .ok (.invokevirtual 47, 3) := by decide +kernel
theorem dX6_find_23 : decode cX6_find 23 = .ok (.iinc 2 1, 3) := by decide +kernel
theorem dX6_find_26 : decode cX6_find 26 = .ok (.goto (-24), 3) := by decide +kernel
theorem dX6_find_29 : decode cX6_find 29 = .ok (.bipush 9, 2) := by decide +kernel
theorem dX6_find_31 : decode cX6_find 31 = .ok (.istore_n 2, 1) := by decide +kernel
theorem dX6_find_32 : decode cX6_find 32 = .ok (.aload_n 0, 1) := by decide +kernel
theorem dX6_find_33 : decode cX6_find 33 = .ok (.iload_n 2, 1) := by decide +kernel
theorem dX6_find_34 : decode cX6_find 34 = .ok (.iconst 0, 1) := by decide +kernel
theorem dX6_find_35 : decode cX6_find 35 = .ok (.bipush 6, 2) := by decide +kernel
theorem dX6_find_37 : decode cX6_find 37 = .ok (.invokevirtual 51, 3) := by decide +kernel
theorem dX6_find_40 : decode cX6_find 40 = .ok (.istore_n 3, 1) := by decide +kernel
theorem dX6_find_41 : decode cX6_find 41 = .ok (.iload_n 3, 1) := by decide +kernel
theorem dX6_find_42 : decode cX6_find 42 = .ok (.ifCond .ge 7, 3) := by decide +kernel
theorem dX6_find_45 : decode cX6_find 45 = .ok (.iconst 0, 1) := by decide +kernel
theorem dX6_find_46 : decode cX6_find 46 = .ok (.goto 11, 3) := by decide +kernel
theorem dX6_find_49 : decode cX6_find 49 = .ok (.aload_n 0, 1) := by decide +kernel
theorem dX6_find_50 : decode cX6_find 50 = .ok (.getfield 22, 3) := by decide +kernel
theorem dX6_find_53 : decode cX6_find 53 = .ok (.iload_n 2, 1) := by decide +kernel
theorem dX6_find_54 : decode cX6_find 54 = .ok (.aaload, 1) := by decide +kernel
theorem dX6_find_55 : decode cX6_find 55 = .ok (.iload_n 3, 1) := by decide +kernel
theorem dX6_find_56 : decode cX6_find 56 = .ok (.iaload, 1) := by decide +kernel
theorem dX6_find_57 : decode cX6_find 57 = .ok (.istore 4, 2) := by decide +kernel
theorem dX6_find_59 : decode cX6_find 59 = .ok (.aload_n 0, 1) := by decide +kernel
theorem dX6_find_60 : decode cX6_find 60 = .ok (.iload_n 3, 1) := by decide +kernel
theorem dX6_find_61 : decode cX6_find 61 = .ok (.invokevirtual 55, 3) := by decide +kernel
theorem dX6_find_64 : decode cX6_find 64 = .ok (.aload_n 0, 1) := by decide +kernel
theorem dX6_find_65 : decode cX6_find 65 = .ok (.iload 4, 2) := by decide +kernel
theorem dX6_find_67 : decode cX6_find 67 = .ok (.i2l, 1) := by decide +kernel
theorem dX6_find_68 : decode cX6_find 68 = .ok (.aload_n 0, 1) := by decide +kernel
theorem dX6_find_69 : decode cX6_find 69 = .ok (.getfield 58, 3) := by decide +kernel
theorem dX6_find_72 : decode cX6_find 72 = .ok (.i2l, 1) := by decide +kernel
theorem dX6_find_73 : decode cX6_find 73 = .ok (.ladd, 1) := by decide +kernel
theorem dX6_find_74 : decode cX6_find 74 = .ok (.ldc2_w 62, 3) := by decide +kernel
theorem dX6_find_77 : decode cX6_find 77 = .ok (.ldiv, 1) := by decide +kernel
theorem dX6_find_78 : decode cX6_find 78 = .ok (.putfield 64, 3) := by decide +kernel
theorem dX6_find_81 : decode cX6_find 81 = .ok (.return_, 1) := by decide +kernel
theorem dX6_covers_0 : decode cX6_covers 0 = .ok (.iload_n 1, 1) := by decide +kernel
theorem dX6_covers_1 : decode cX6_covers 1 = .ok (.invokestatic 68, 3) := by decide +kernel
theorem dX6_covers_4 : decode cX6_covers 4 = .ok (.ifCond .ne 5, 3) := by decide +kernel
theorem dX6_covers_7 : decode cX6_covers 7 = .ok (.iconst 0, 1) := by decide +kernel
theorem dX6_covers_8 : decode cX6_covers 8 = .ok (.ireturn, 1) := by decide +kernel
theorem dX6_covers_9 : decode cX6_covers 9 = .ok (.iload_n 1, 1) := by decide +kernel
theorem dX6_covers_10 : decode cX6_covers 10 = .ok (.bipush 10, 2) := by decide +kernel
theorem dX6_covers_12 : decode cX6_covers 12 = .ok (.irem, 1) := by decide +kernel
theorem dX6_covers_13 : decode cX6_covers 13 = .ok (.istore_n 2, 1) := by decide +kernel
theorem dX6_covers_14 : decode cX6_covers 14 = .ok (.iload_n 1, 1) := by decide +kernel
theorem dX6_covers_15 : decode cX6_covers 15 = .ok (.bipush 10, 2) := by decide +kernel
theorem dX6_covers_17 : decode cX6_covers 17 = .ok (.idiv, 1) := by decide +kernel
theorem dX6_covers_18 : decode cX6_covers 18 = .ok (.istore_n 3, 1) := by decide +kernel
theorem dX6_covers_19 : decode cX6_covers 19 = .ok (.iload_n 3, 1) := by decide +kernel
theorem dX6_covers_20 : decode cX6_covers 20 = .ok (.aload_n 0, 1) := by decide +kernel
theorem dX6_covers_21 : decode cX6_covers 21 = .ok (.getfield 11, 3) := by decide +kernel
theorem dX6_covers_24 : decode cX6_covers 24 = .ok (.iload_n 2, 1) := by decide +kernel
theorem dX6_covers_25 : decode cX6_covers 25 = .ok (.iaload, 1) := by decide +kernel
theorem dX6_covers_26 : decode cX6_covers 26 = .ok (.if_icmp .lt 17, 3) := by decide +kernel
theorem dX6_covers_29 : decode cX6_covers 29 = .ok (.iload_n 3, 1) := by decide +kernel
theorem dX6_covers_30 : decode cX6_covers 30 = .ok (.aload_n 0, 1) := by decide +kernel
theorem dX6_covers_31 : decode cX6_covers 31 = .ok (.getfield 28, 3) := by decide +kernel
theorem dX6_covers_34 : decode cX6_covers 34 = .ok (.iload_n 2, 1) := by decide +kernel
theorem dX6_covers_35 : decode cX6_covers 35 = .ok (.iaload, 1) := by decide +kernel
theorem dX6_covers_36 : decode cX6_covers 36 = .ok (.if_icmp .ge 7, 3) := by decide +kernel
theorem dX6_covers_39 : decode cX6_covers 39 = .ok (.iconst 1, 1) := by decide +kernel
theorem dX6_covers_40 : decode cX6_covers 40 = .ok (.goto 4, 3) := by decide +kernel
theorem dX6_covers_43 : decode cX6_covers 43 = .ok (.iconst 0, 1) := by decide +kernel
theorem dX6_covers_44 : decode cX6_covers 44 = .ok (.ireturn, 1) := by decide +kernel
theorem dX6_measure_0 : decode cX6_measure 0 = .ok (.aload_n 0, 1) := by decide +kernel
theorem dX6_measure_1 : decode cX6_measure 1 = .ok (.getfield 35, 3) := by decide +kernel
theorem dX6_measure_4 : decode cX6_measure 4 = .ok (.iload_n 1, 1) := by decide +kernel
theorem dX6_measure_5 : decode cX6_measure 5 = .ok (.invokevirtual 72, 3) := by decide +kernel
theorem dX6_measure_8 : decode cX6_measure 8 = .ok (.istore_n 3, 1) := by decide +kernel
theorem dX6_measure_9 : decode cX6_measure 9 = .ok (.iconst 0, 1) := by decide +kernel
theorem dX6_measure_10 : decode cX6_measure 10 = .ok (.istore 4, 2) := by decide +kernel
theorem dX6_measure_12 : decode cX6_measure 12 = .ok (.iconst 0, 1) := by decide +kernel
theorem dX6_measure_13 : decode cX6_measure 13 = .ok (.istore 5, 2) := by decide +kernel
theorem dX6_measure_15 : decode cX6_measure 15 = .ok (.aload_n 0, 1) := by decide +kernel
theorem dX6_measure_16 : decode cX6_measure 16 = .ok (.getfield 11, 3) := by decide +kernel
theorem dX6_measure_19 : decode cX6_measure 19 = .ok (.iload_n 1, 1) := by decide +kernel
theorem dX6_measure_20 : decode cX6_measure 20 = .ok (.iload_n 3, 1) := by decide +kernel
theorem dX6_measure_21 : decode cX6_measure 21 = .ok (.iastore, 1) := by decide +kernel
theorem dX6_measure_22 : decode cX6_measure 22 = .ok (.iconst 0, 1) := by decide +kernel
theorem dX6_measure_23 : decode cX6_measure 23 = .ok (.istore 6, 2) := by decide +kernel
theorem dX6_measure_25 : decode cX6_measure 25 = .ok (.iload 6, 2) := by decide +kernel
theorem dX6_measure_27 : decode cX6_measure 27 = .ok (.bipush 6, 2) := by decide +kernel
theorem dX6_measure_29 : decode cX6_measure 29 = .ok (.if_icmp .gt 112, 3) := by decide +kernel
theorem dX6_measure_32 : decode cX6_measure 32 = .ok (.iload 6, 2) := by decide +kernel
theorem dX6_measure_34 : decode cX6_measure 34 = .ok (.iload_n 3, 1) := by decide +kernel
theorem dX6_measure_35 : decode cX6_measure 35 = .ok (.if_icmp .le 57, 3) := by decide +kernel
theorem dX6_measure_38 : decode cX6_measure 38 = .ok (.iload 6, 2) := by decide +kernel
theorem dX6_measure_40 : decode cX6_measure 40 = .ok (.iconst 1, 1) := by decide +kernel
theorem dX6_measure_41 : decode cX6_measure 41 = .ok (.isub, 1) := by decide +kernel
theorem dX6_measure_42 : decode cX6_measure 42 = .ok (.bipush 10, 2) := by decide +kernel
theorem dX6_measure_44 : decode cX6_measure 44 = .ok (.imul, 1) := by decide +kernel
theorem dX6_measure_45 : decode cX6_measure 45 = .ok (.iload_n 1, 1) := by decide +kernel
theorem dX6_measure_46 : decode cX6_measure 46 = .ok (.iadd, 1) := by decide +kernel
theorem dX6_measure_47 : decode cX6_measure 47 = .ok (.istore 7, 2) := by decide +kernel
theorem dX6_measure_49 : decode cX6_measure 49 = .ok (.iload 4, 2) := by decide +kernel
theorem dX6_measure_51 : decode cX6_measure 51 = .ok (.bipush 64, 2) := by decide +kernel
theorem dX6_measure_53 : decode cX6_measure 53 = .ok (.aload_n 0, 1) := by decide +kernel
theorem dX6_measure_54 : decode cX6_measure 54 = .ok (.getfield 39, 3) := by decide +kernel
theorem dX6_measure_57 : decode cX6_measure 57 = .ok (.iload 7, 2) := by decide +kernel
theorem dX6_measure_59 : decode cX6_measure 59 = .ok (.iload_n 2, 1) := by decide +kernel
theorem dX6_measure_60 : decode cX6_measure 60 = .ok (.invokevirtual 78, 3) := by decide +kernel
theorem dX6_measure_63 : decode cX6_measure 63 = .ok (.imul, 1) := by decide +kernel
theorem dX6_measure_64 : decode cX6_measure 64 = .ok (.iconst 1, 1) := by decide +kernel
theorem dX6_measure_65 : decode cX6_measure 65 = .ok (.isub, 1) := by decide +kernel
theorem dX6_measure_66 : decode cX6_measure 66 = .ok (.iadd, 1) := by decide +kernel
theorem dX6_measure_67 : decode cX6_measure 67 = .ok (.istore 4, 2) := by decide +kernel
theorem dX6_measure_69 : decode cX6_measure 69 = .ok (.aload_n 0, 1) := by decide +kernel
theorem dX6_measure_70 : decode cX6_measure 70 = .ok (.getfield 35, 3) := by decide +kernel
theorem dX6_measure_73 : decode cX6_measure 73 = .ok (.iload 7, 2) := by decide +kernel
theorem dX6_measure_75 : decode cX6_measure 75 = .ok (.invokevirtual 84, 3) := by decide +kernel
theorem dX6_measure_78 : decode cX6_measure 78 = .ok (.ifCond .eq 8, 3) := by decide +kernel
theorem dX6_measure_81 : decode cX6_measure 81 = .ok (.iload 5, 2) := by decide +kernel
theorem dX6_measure_83 : decode cX6_measure 83 = .ok (.goto 7, 3) := by decide +kernel
theorem dX6_measure_86 : decode cX6_measure 86 = .ok (.iload 6, 2) := by decide +kernel
theorem dX6_measure_88 : decode cX6_measure 88 = .ok (.iconst 1, 1) := by decide +kernel
theorem dX6_measure_89 : decode cX6_measure 89 = .ok (.isub, 1) := by decide +kernel
theorem dX6_measure_90 : decode cX6_measure 90 = .ok (.istore 5, 2) := by decide +kernel
theorem dX6_measure_92 : decode cX6_measure 92 = .ok (.aload_n 0, 1) := by decide +kernel
theorem dX6_measure_93 : decode cX6_measure 93 = .ok (.getfield 19, 3) := by decide +kernel
theorem dX6_measure_96 : decode cX6_measure 96 = .ok (.iload_n 1, 1) := by decide +kernel
theorem dX6_measure_97 : decode cX6_measure 97 = .ok (.aaload, 1) := by decide +kernel
theorem dX6_measure_98 : decode cX6_measure 98 = .ok (.iload 6, 2) := by decide +kernel
theorem dX6_measure_100 : decode cX6_measure 100 = .ok (.iload 5, 2) := by decide +kernel
theorem dX6_measure_102 : decode cX6_measure 102 = .ok (.iastore, 1) := by decide +kernel
theorem dX6_measure_103 : decode cX6_measure 103 = .ok (.aload_n 0, 1) := by decide +kernel
theorem dX6_measure_104 : decode cX6_measure 104 = .ok (.getfield 22, 3) := by decide +kernel
theorem dX6_measure_107 : decode cX6_measure 107 = .ok (.iload_n 1, 1) := by decide +kernel
theorem dX6_measure_108 : decode cX6_measure 108 = .ok (.aaload, 1) := by decide +kernel
theorem dX6_measure_109 : decode cX6_measure 109 = .ok (.iload 6, 2) := by decide +kernel
theorem dX6_measure_111 : decode cX6_measure 111 = .ok (.iload 6, 2) := by decide +kernel
theorem dX6_measure_113 : decode cX6_measure 113 = .ok (.iload_n 3, 1) := by decide +kernel
theorem dX6_measure_114 : decode cX6_measure 114 = .ok (.if_icmp .ge 8, 3) := by decide +kernel
theorem dX6_measure_117 : decode cX6_measure 117 = .ok (.ldc 87, 2) := by decide +kernel
theorem dX6_measure_119 : decode cX6_measure 119 = .ok (.goto 5, 3) := by decide +kernel
theorem dX6_measure_122 : decode cX6_measure 122 = .ok (.iload 4, 2) := by decide +kernel
theorem dX6_measure_124 : decode cX6_measure 124 = .ok (.iastore, 1) := by decide +kernel
theorem dX6_measure_125 : decode cX6_measure 125 = .ok (.aload_n 0, 1) := by decide +kernel
theorem dX6_measure_126 : decode cX6_measure 126 = .ok (.getfield 25, 3) := by decide +kernel
theorem dX6_measure_129 : decode cX6_measure 129 = .ok (.iload_n 1, 1) := by decide +kernel
theorem dX6_measure_130 : decode cX6_measure 130 = .ok (.aaload, 1) := by decide +kernel
theorem dX6_measure_131 : decode cX6_measure 131 = .ok (.iload 6, 2) := by decide +kernel
theorem dX6_measure_133 : decode cX6_measure 133 = .ok (.iconst (-1), 1) := by decide +kernel
theorem dX6_measure_134 : decode cX6_measure 134 = .ok (.iastore, 1) := by decide +kernel
theorem dX6_measure_135 : decode cX6_measure 135 = .ok (.iinc 6 1, 3) := by decide +kernel
theorem dX6_measure_138 : decode cX6_measure 138 = .ok (.goto (-113), 3) := by decide +kernel
theorem dX6_measure_141 : decode cX6_measure 141 = .ok (.return_, 1) := by decide +kernel
theorem dX6_joinLeft_0 : decode cX6_joinLeft 0 = .ok (.aload_n 0, 1) := by decide +kernel
theorem dX6_joinLeft_1 : decode cX6_joinLeft 1 = .ok (.getfield 11, 3) := by decide +kernel
theorem dX6_joinLeft_4 : decode cX6_joinLeft 4 = .ok (.iload_n 1, 1) := by decide +kernel
theorem dX6_joinLeft_5 : decode cX6_joinLeft 5 = .ok (.iaload, 1) := by decide +kernel
theorem dX6_joinLeft_6 : decode cX6_joinLeft 6 = .ok (.istore_n 2, 1) := by decide +kernel
theorem dX6_joinLeft_7 : decode cX6_joinLeft 7 = .ok (.iload_n 2, 1) := by decide +kernel
theorem dX6_joinLeft_8 : decode cX6_joinLeft 8 = .ok (.bipush 6, 2) := by decide +kernel
theorem dX6_joinLeft_10 : decode cX6_joinLeft 10 = .ok (.if_icmp .gt 71, 3) := by decide +kernel
theorem dX6_joinLeft_13 : decode cX6_joinLeft 13 = .ok (.aload_n 0, 1) := by decide +kernel
theorem dX6_joinLeft_14 : decode cX6_joinLeft 14 = .ok (.iload_n 1, 1) := by decide +kernel
theorem dX6_joinLeft_15 : decode cX6_joinLeft 15 = .ok (.iconst 1, 1) := by decide +kernel
theorem dX6_joinLeft_16 : decode cX6_joinLeft 16 = .ok (.isub, 1) := by decide +kernel
theorem dX6_joinLeft_17 : decode cX6_joinLeft 17 = .ok (.aload_n 0, 1) := by decide +kernel
theorem dX6_joinLeft_18 : decode cX6_joinLeft 18 = .ok (.getfield 19, 3) := by decide +kernel
theorem dX6_joinLeft_21 : decode cX6_joinLeft 21 = .ok (.iload_n 1, 1) := by decide +kernel
theorem dX6_joinLeft_22 : decode cX6_joinLeft 22 = .ok (.aaload, 1) := by decide +kernel
theorem dX6_joinLeft_23 : decode cX6_joinLeft 23 = .ok (.iload_n 2, 1) := by decide +kernel
theorem dX6_joinLeft_24 : decode cX6_joinLeft 24 = .ok (.iaload, 1) := by decide +kernel
theorem dX6_joinLeft_25 : decode cX6_joinLeft 25 = .ok (.iload_n 2, 1) := by decide +kernel
theorem dX6_joinLeft_26 : decode cX6_joinLeft 26 = .ok (.invokevirtual 51, 3) := by decide +kernel
theorem dX6_joinLeft_29 : decode cX6_joinLeft 29 = .ok (.istore_n 3, 1) := by decide +kernel
theorem dX6_joinLeft_30 : decode cX6_joinLeft 30 = .ok (.aload_n 0, 1) := by decide +kernel
theorem dX6_joinLeft_31 : decode cX6_joinLeft 31 = .ok (.getfield 25, 3) := by decide +kernel
theorem dX6_joinLeft_34 : decode cX6_joinLeft 34 = .ok (.iload_n 1, 1) := by decide +kernel
theorem dX6_joinLeft_35 : decode cX6_joinLeft 35 = .ok (.aaload, 1) := by decide +kernel
theorem dX6_joinLeft_36 : decode cX6_joinLeft 36 = .ok (.iload_n 2, 1) := by decide +kernel
theorem dX6_joinLeft_37 : decode cX6_joinLeft 37 = .ok (.iload_n 3, 1) := by decide +kernel
theorem dX6_joinLeft_38 : decode cX6_joinLeft 38 = .ok (.iastore, 1) := by decide +kernel
theorem dX6_joinLeft_39 : decode cX6_joinLeft 39 = .ok (.aload_n 0, 1) := by decide +kernel
theorem dX6_joinLeft_40 : decode cX6_joinLeft 40 = .ok (.getfield 22, 3) := by decide +kernel
theorem dX6_joinLeft_43 : decode cX6_joinLeft 43 = .ok (.iload_n 1, 1) := by decide +kernel
theorem dX6_joinLeft_44 : decode cX6_joinLeft 44 = .ok (.aaload, 1) := by decide +kernel
theorem dX6_joinLeft_45 : decode cX6_joinLeft 45 = .ok (.iload_n 2, 1) := by decide +kernel
theorem dX6_joinLeft_46 : decode cX6_joinLeft 46 = .ok (.iload_n 3, 1) := by decide +kernel
theorem dX6_joinLeft_47 : decode cX6_joinLeft 47 = .ok (.ifCond .ge 8, 3) := by decide +kernel
theorem dX6_joinLeft_50 : decode cX6_joinLeft 50 = .ok (.ldc 87, 2) := by decide +kernel
theorem dX6_joinLeft_52 : decode cX6_joinLeft 52 = .ok (.goto 22, 3) := by decide +kernel
theorem dX6_joinLeft_55 : decode cX6_joinLeft 55 = .ok (.aload_n 0, 1) := by decide +kernel
theorem dX6_joinLeft_56 : decode cX6_joinLeft 56 = .ok (.getfield 22, 3) := by decide +kernel
theorem dX6_joinLeft_59 : decode cX6_joinLeft 59 = .ok (.iload_n 1, 1) := by decide +kernel
theorem dX6_joinLeft_60 : decode cX6_joinLeft 60 = .ok (.aaload, 1) := by decide +kernel
theorem dX6_joinLeft_61 : decode cX6_joinLeft 61 = .ok (.iload_n 2, 1) := by decide +kernel
theorem dX6_joinLeft_62 : decode cX6_joinLeft 62 = .ok (.iaload, 1) := by decide +kernel
theorem dX6_joinLeft_63 : decode cX6_joinLeft 63 = .ok (.aload_n 0, 1) := by decide +kernel
theorem dX6_joinLeft_64 : decode cX6_joinLeft 64 = .ok (.getfield 22, 3) := by decide +kernel
theorem dX6_joinLeft_67 : decode cX6_joinLeft 67 = .ok (.iload_n 1, 1) := by decide +kernel
theorem dX6_joinLeft_68 : decode cX6_joinLeft 68 = .ok (.iconst 1, 1) := by decide +kernel
theorem dX6_joinLeft_69 : decode cX6_joinLeft 69 = .ok (.isub, 1) := by decide +kernel
theorem dX6_joinLeft_70 : decode cX6_joinLeft 70 = .ok (.aaload, 1) := by decide +kernel
theorem dX6_joinLeft_71 : decode cX6_joinLeft 71 = .ok (.iload_n 3, 1) := by decide +kernel
theorem dX6_joinLeft_72 : decode cX6_joinLeft 72 = .ok (.iaload, 1) := by decide +kernel
theorem dX6_joinLeft_73 : decode cX6_joinLeft 73 = .ok (.iadd, 1) := by decide +kernel
theorem dX6_joinLeft_74 : decode cX6_joinLeft 74 = .ok (.iastore, 1) := by decide +kernel
theorem dX6_joinLeft_75 : decode cX6_joinLeft 75 = .ok (.iinc 2 1, 3) := by decide +kernel
theorem dX6_joinLeft_78 : decode cX6_joinLeft 78 = .ok (.goto (-71), 3) := by decide +kernel
theorem dX6_joinLeft_81 : decode cX6_joinLeft 81 = .ok (.return_, 1) := by decide +kernel
theorem dX6_bestDepth_0 : decode cX6_bestDepth 0 = .ok (.iconst (-1), 1) := by decide +kernel
theorem dX6_bestDepth_1 : decode cX6_bestDepth 1 = .ok (.istore 4, 2) := by decide +kernel
theorem dX6_bestDepth_3 : decode cX6_bestDepth 3 = .ok (.iload_n 2, 1) := by decide +kernel
theorem dX6_bestDepth_4 : decode cX6_bestDepth 4 = .ok (.istore 5, 2) := by decide +kernel
theorem dX6_bestDepth_6 : decode cX6_bestDepth 6 = .ok (.iload 5, 2) := by decide +kernel
theorem dX6_bestDepth_8 : decode cX6_bestDepth 8 = .ok (.bipush 6, 2) := by decide +kernel
theorem dX6_bestDepth_10 : decode cX6_bestDepth 10 = .ok (.if_icmp .gt 78, 3) := by decide +kernel
theorem dX6_bestDepth_13 : decode cX6_bestDepth 13 = .ok (.aload_n 0, 1) := by decide +kernel
theorem dX6_bestDepth_14 : decode cX6_bestDepth 14 = .ok (.getfield 22, 3) := by decide +kernel
theorem dX6_bestDepth_17 : decode cX6_bestDepth 17 = .ok (.iload_n 1, 1) := by decide +kernel
theorem dX6_bestDepth_18 : decode cX6_bestDepth 18 = .ok (.aaload, 1) := by decide +kernel
theorem dX6_bestDepth_19 : decode cX6_bestDepth 19 = .ok (.iload 5, 2) := by decide +kernel
theorem dX6_bestDepth_21 : decode cX6_bestDepth 21 = .ok (.iaload, 1) := by decide +kernel
theorem dX6_bestDepth_22 : decode cX6_bestDepth 22 = .ok (.ldc 87, 2) := by decide +kernel
theorem dX6_bestDepth_24 : decode cX6_bestDepth 24 = .ok (.if_icmp .eq 20, 3) := by decide +kernel
theorem dX6_bestDepth_27 : decode cX6_bestDepth 27 = .ok (.aload_n 0, 1) := by decide +kernel
theorem dX6_bestDepth_28 : decode cX6_bestDepth 28 = .ok (.getfield 19, 3) := by decide +kernel
theorem dX6_bestDepth_31 : decode cX6_bestDepth 31 = .ok (.iload_n 1, 1) := by decide +kernel
theorem dX6_bestDepth_32 : decode cX6_bestDepth 32 = .ok (.aaload, 1) := by decide +kernel
theorem dX6_bestDepth_33 : decode cX6_bestDepth 33 = .ok (.iload 5, 2) := by decide +kernel
theorem dX6_bestDepth_35 : decode cX6_bestDepth 35 = .ok (.iaload, 1) := by decide +kernel
theorem dX6_bestDepth_36 : decode cX6_bestDepth 36 = .ok (.iload_n 3, 1) := by decide +kernel
theorem dX6_bestDepth_37 : decode cX6_bestDepth 37 = .ok (.if_icmp .gt 7, 3) := by decide +kernel
theorem dX6_bestDepth_40 : decode cX6_bestDepth 40 = .ok (.iconst 1, 1) := by decide +kernel
theorem dX6_bestDepth_41 : decode cX6_bestDepth 41 = .ok (.goto 4, 3) := by decide +kernel
theorem dX6_bestDepth_44 : decode cX6_bestDepth 44 = .ok (.iconst 0, 1) := by decide +kernel
theorem dX6_bestDepth_45 : decode cX6_bestDepth 45 = .ok (.istore 6, 2) := by decide +kernel
theorem dX6_bestDepth_47 : decode cX6_bestDepth 47 = .ok (.iload 6, 2) := by decide +kernel
theorem dX6_bestDepth_49 : decode cX6_bestDepth 49 = .ok (.ifCond .eq 33, 3) := by decide +kernel
theorem dX6_bestDepth_52 : decode cX6_bestDepth 52 = .ok (.iload 4, 2) := by decide +kernel
theorem dX6_bestDepth_54 : decode cX6_bestDepth 54 = .ok (.ifCond .lt 24, 3) := by decide +kernel
theorem dX6_bestDepth_57 : decode cX6_bestDepth 57 = .ok (.aload_n 0, 1) := by decide +kernel
theorem dX6_bestDepth_58 : decode cX6_bestDepth 58 = .ok (.getfield 22, 3) := by decide +kernel
theorem dX6_bestDepth_61 : decode cX6_bestDepth 61 = .ok (.iload_n 1, 1) := by decide +kernel
theorem dX6_bestDepth_62 : decode cX6_bestDepth 62 = .ok (.aaload, 1) := by decide +kernel
theorem dX6_bestDepth_63 : decode cX6_bestDepth 63 = .ok (.iload 5, 2) := by decide +kernel
theorem dX6_bestDepth_65 : decode cX6_bestDepth 65 = .ok (.iaload, 1) := by decide +kernel
theorem dX6_bestDepth_66 : decode cX6_bestDepth 66 = .ok (.aload_n 0, 1) := by decide +kernel
theorem dX6_bestDepth_67 : decode cX6_bestDepth 67 = .ok (.getfield 22, 3) := by decide +kernel
theorem dX6_bestDepth_70 : decode cX6_bestDepth 70 = .ok (.iload_n 1, 1) := by decide +kernel
theorem dX6_bestDepth_71 : decode cX6_bestDepth 71 = .ok (.aaload, 1) := by decide +kernel
theorem dX6_bestDepth_72 : decode cX6_bestDepth 72 = .ok (.iload 4, 2) := by decide +kernel
theorem dX6_bestDepth_74 : decode cX6_bestDepth 74 = .ok (.iaload, 1) := by decide +kernel
theorem dX6_bestDepth_75 : decode cX6_bestDepth 75 = .ok (.if_icmp .le 7, 3) := by decide +kernel
theorem dX6_bestDepth_78 : decode cX6_bestDepth 78 = .ok (.iload 5, 2) := by decide +kernel
theorem dX6_bestDepth_80 : decode cX6_bestDepth 80 = .ok (.istore 4, 2) := by decide +kernel
theorem dX6_bestDepth_82 : decode cX6_bestDepth 82 = .ok (.iinc 5 1, 3) := by decide +kernel
theorem dX6_bestDepth_85 : decode cX6_bestDepth 85 = .ok (.goto (-79), 3) := by decide +kernel
theorem dX6_bestDepth_88 : decode cX6_bestDepth 88 = .ok (.iload 4, 2) := by decide +kernel
theorem dX6_bestDepth_90 : decode cX6_bestDepth 90 = .ok (.ireturn, 1) := by decide +kernel
theorem dX6_readDepths_0 : decode cX6_readDepths 0 = .ok (.iload_n 1, 1) := by decide +kernel
theorem dX6_readDepths_1 : decode cX6_readDepths 1 = .ok (.istore_n 2, 1) := by decide +kernel
theorem dX6_readDepths_2 : decode cX6_readDepths 2 = .ok (.aload_n 0, 1) := by decide +kernel
theorem dX6_readDepths_3 : decode cX6_readDepths 3 = .ok (.iconst 0, 1) := by decide +kernel
theorem dX6_readDepths_4 : decode cX6_readDepths 4 = .ok (.putfield 58, 3) := by decide +kernel
theorem dX6_readDepths_7 : decode cX6_readDepths 7 = .ok (.bipush 9, 2) := by decide +kernel
theorem dX6_readDepths_9 : decode cX6_readDepths 9 = .ok (.istore_n 3, 1) := by decide +kernel
theorem dX6_readDepths_10 : decode cX6_readDepths 10 = .ok (.iload_n 3, 1) := by decide +kernel
theorem dX6_readDepths_11 : decode cX6_readDepths 11 = .ok (.ifCond .lt 70, 3) := by decide +kernel
theorem dX6_readDepths_14 : decode cX6_readDepths 14 = .ok (.aload_n 0, 1) := by decide +kernel
theorem dX6_readDepths_15 : decode cX6_readDepths 15 = .ok (.getfield 28, 3) := by decide +kernel
theorem dX6_readDepths_18 : decode cX6_readDepths 18 = .ok (.iload_n 3, 1) := by decide +kernel
theorem dX6_readDepths_19 : decode cX6_readDepths 19 = .ok (.iload_n 2, 1) := by decide +kernel
theorem dX6_readDepths_20 : decode cX6_readDepths 20 = .ok (.aload_n 0, 1) := by decide +kernel
theorem dX6_readDepths_21 : decode cX6_readDepths 21 = .ok (.getfield 11, 3) := by decide +kernel
theorem dX6_readDepths_24 : decode cX6_readDepths 24 = .ok (.iload_n 3, 1) := by decide +kernel
theorem dX6_readDepths_25 : decode cX6_readDepths 25 = .ok (.iaload, 1) := by decide +kernel
theorem dX6_readDepths_26 : decode cX6_readDepths 26 = .ok (.invokestatic 88, 3) := by decide +kernel
theorem dX6_readDepths_29 : decode cX6_readDepths 29 = .ok (.iastore, 1) := by decide +kernel
theorem dX6_readDepths_30 : decode cX6_readDepths 30 = .ok (.aload_n 0, 1) := by decide +kernel
theorem dX6_readDepths_31 : decode cX6_readDepths 31 = .ok (.dup, 1) := by decide +kernel
theorem dX6_readDepths_32 : decode cX6_readDepths 32 = .ok (.getfield 58, 3) := by decide +kernel
theorem dX6_readDepths_35 : decode cX6_readDepths 35 = .ok (.aload_n 0, 1) := by decide +kernel
theorem dX6_readDepths_36 : decode cX6_readDepths 36 = .ok (.getfield 28, 3) := by decide +kernel
theorem dX6_readDepths_39 : decode cX6_readDepths 39 = .ok (.iload_n 3, 1) := by decide +kernel
theorem dX6_readDepths_40 : decode cX6_readDepths 40 = .ok (.iaload, 1) := by decide +kernel
theorem dX6_readDepths_41 : decode cX6_readDepths 41 = .ok (.aload_n 0, 1) := by decide +kernel
theorem dX6_readDepths_42 : decode cX6_readDepths 42 = .ok (.getfield 11, 3) := by decide +kernel
theorem dX6_readDepths_45 : decode cX6_readDepths 45 = .ok (.iload_n 3, 1) := by decide +kernel
theorem dX6_readDepths_46 : decode cX6_readDepths 46 = .ok (.iaload, 1) := by decide +kernel
theorem dX6_readDepths_47 : decode cX6_readDepths 47 = .ok (.isub, 1) := by decide +kernel
theorem dX6_readDepths_48 : decode cX6_readDepths 48 = .ok (.iadd, 1) := by decide +kernel
theorem dX6_readDepths_49 : decode cX6_readDepths 49 = .ok (.putfield 58, 3) := by decide +kernel
theorem dX6_readDepths_52 : decode cX6_readDepths 52 = .ok (.iload_n 2, 1) := by decide +kernel
theorem dX6_readDepths_53 : decode cX6_readDepths 53 = .ok (.ifCond .lt 9, 3) := by decide +kernel
theorem dX6_readDepths_56 : decode cX6_readDepths 56 = .ok (.iload_n 2, 1) := by decide +kernel
theorem dX6_readDepths_57 : decode cX6_readDepths 57 = .ok (.bipush 6, 2) := by decide +kernel
theorem dX6_readDepths_59 : decode cX6_readDepths 59 = .ok (.if_icmp .le 7, 3) := by decide +kernel
theorem dX6_readDepths_62 : decode cX6_readDepths 62 = .ok (.iconst (-1), 1) := by decide +kernel
theorem dX6_readDepths_63 : decode cX6_readDepths 63 = .ok (.goto 11, 3) := by decide +kernel
theorem dX6_readDepths_66 : decode cX6_readDepths 66 = .ok (.aload_n 0, 1) := by decide +kernel
theorem dX6_readDepths_67 : decode cX6_readDepths 67 = .ok (.getfield 25, 3) := by decide +kernel
theorem dX6_readDepths_70 : decode cX6_readDepths 70 = .ok (.iload_n 3, 1) := by decide +kernel
theorem dX6_readDepths_71 : decode cX6_readDepths 71 = .ok (.aaload, 1) := by decide +kernel
theorem dX6_readDepths_72 : decode cX6_readDepths 72 = .ok (.iload_n 2, 1) := by decide +kernel
theorem dX6_readDepths_73 : decode cX6_readDepths 73 = .ok (.iaload, 1) := by decide +kernel
theorem dX6_readDepths_74 : decode cX6_readDepths 74 = .ok (.istore_n 2, 1) := by decide +kernel
theorem dX6_readDepths_75 : decode cX6_readDepths 75 = .ok (.iinc 3 (-1), 3) := by decide +kernel
theorem dX6_readDepths_78 : decode cX6_readDepths 78 = .ok (.goto (-68), 3) := by decide +kernel
theorem dX6_readDepths_81 : decode cX6_readDepths 81 = .ok (.return_, 1) := by decide +kernel
theorem dX6_leastPitValue_0 : decode cX6_leastPitValue 0 = .ok (.lconst 0, 1) := by decide +kernel
theorem dX6_leastPitValue_1 : decode cX6_leastPitValue 1 = .ok (.lstore_n 3, 1) := by decide +kernel
theorem dX6_leastPitValue_2 : decode cX6_leastPitValue 2 = .ok (.iconst 0, 1) := by decide +kernel
theorem dX6_leastPitValue_3 : decode cX6_leastPitValue 3 = .ok (.istore 5, 2) := by decide +kernel
theorem dX6_leastPitValue_5 : decode cX6_leastPitValue 5 = .ok (.iload 5, 2) := by decide +kernel
theorem dX6_leastPitValue_7 : decode cX6_leastPitValue 7 = .ok (.bipush 60, 2) := by decide +kernel
theorem dX6_leastPitValue_9 : decode cX6_leastPitValue 9 = .ok (.if_icmp .ge 27, 3) := by decide +kernel
theorem dX6_leastPitValue_12 : decode cX6_leastPitValue 12 = .ok (.aload_n 0, 1) := by decide +kernel
theorem dX6_leastPitValue_13 : decode cX6_leastPitValue 13 = .ok (.getfield 31, 3) := by decide +kernel
theorem dX6_leastPitValue_16 : decode cX6_leastPitValue 16 = .ok (.iload 5, 2) := by decide +kernel
theorem dX6_leastPitValue_18 : decode cX6_leastPitValue 18 = .ok (.iload 5, 2) := by decide +kernel
theorem dX6_leastPitValue_20 : decode cX6_leastPitValue 20 = .ok (.iload_n 2, 1) := by decide +kernel
theorem dX6_leastPitValue_21 : decode cX6_leastPitValue 21 = .ok (.if_icmp .ne 7, 3) := by decide +kernel
theorem dX6_leastPitValue_24 : decode cX6_leastPitValue 24 = .ok (.iconst 1, 1) := by decide +kernel
theorem dX6_leastPitValue_25 : decode cX6_leastPitValue 25 = .ok (.goto 4, 3) := by decide +kernel
theorem dX6_leastPitValue_28 : decode cX6_leastPitValue 28 = .ok (.iconst 0, 1) := by decide +kernel
theorem dX6_leastPitValue_29 : decode cX6_leastPitValue 29 = .ok (.bastore, 1) := by decide +kernel
theorem dX6_leastPitValue_30 : decode cX6_leastPitValue 30 = .ok (.iinc 5 1, 3) := by decide +kernel
theorem dX6_leastPitValue_33 : decode cX6_leastPitValue 33 = .ok (.goto (-28), 3) := by decide +kernel
theorem dX6_leastPitValue_36 : decode cX6_leastPitValue 36 = .ok (.bipush 59, 2) := by decide +kernel
theorem dX6_leastPitValue_38 : decode cX6_leastPitValue 38 = .ok (.istore 5, 2) := by decide +kernel
theorem dX6_leastPitValue_40 : decode cX6_leastPitValue 40 = .ok (.iload 5, 2) := by decide +kernel
theorem dX6_leastPitValue_42 : decode cX6_leastPitValue 42 = .ok (.ifCond .lt 39, 3) := by decide +kernel
theorem dX6_leastPitValue_45 : decode cX6_leastPitValue 45 = .ok (.aload_n 0, 1) := by decide +kernel
theorem dX6_leastPitValue_46 : decode cX6_leastPitValue 46 = .ok (.getfield 31, 3) := by decide +kernel
theorem dX6_leastPitValue_49 : decode cX6_leastPitValue 49 = .ok (.iload 5, 2) := by decide +kernel
theorem dX6_leastPitValue_51 : decode cX6_leastPitValue 51 = .ok (.baload, 1) := by decide +kernel
theorem dX6_leastPitValue_52 : decode cX6_leastPitValue 52 = .ok (.ifCond .eq 23, 3) := by decide +kernel
theorem dX6_leastPitValue_55 : decode cX6_leastPitValue 55 = .ok (.lload_n 3, 1) := by decide +kernel
theorem dX6_leastPitValue_56 : decode cX6_leastPitValue 56 = .ok (.aload_n 0, 1) := by decide +kernel
theorem dX6_leastPitValue_57 : decode cX6_leastPitValue 57 = .ok (.getfield 39, 3) := by decide +kernel
theorem dX6_leastPitValue_60 : decode cX6_leastPitValue 60 = .ok (.iload 5, 2) := by decide +kernel
theorem dX6_leastPitValue_62 : decode cX6_leastPitValue 62 = .ok (.iload_n 1, 1) := by decide +kernel
theorem dX6_leastPitValue_63 : decode cX6_leastPitValue 63 = .ok (.invokevirtual 78, 3) := by decide +kernel
theorem dX6_leastPitValue_66 : decode cX6_leastPitValue 66 = .ok (.i2l, 1) := by decide +kernel
theorem dX6_leastPitValue_67 : decode cX6_leastPitValue 67 = .ok (.ladd, 1) := by decide +kernel
theorem dX6_leastPitValue_68 : decode cX6_leastPitValue 68 = .ok (.lstore_n 3, 1) := by decide +kernel
theorem dX6_leastPitValue_69 : decode cX6_leastPitValue 69 = .ok (.aload_n 0, 1) := by decide +kernel
theorem dX6_leastPitValue_70 : decode cX6_leastPitValue 70 = .ok (.iload 5, 2) := by decide +kernel
theorem dX6_leastPitValue_72 : decode cX6_leastPitValue 72 = .ok (.invokevirtual 93, 3) := by decide +kernel
theorem dX6_leastPitValue_75 : decode cX6_leastPitValue 75 = .ok (.iinc 5 (-1), 3) := by decide +kernel
theorem dX6_leastPitValue_78 : decode cX6_leastPitValue 78 = .ok (.goto (-38), 3) := by decide +kernel
theorem dX6_leastPitValue_81 : decode cX6_leastPitValue 81 = .ok (.lload_n 3, 1) := by decide +kernel
theorem dX6_leastPitValue_82 : decode cX6_leastPitValue 82 = .ok (.lreturn, 1) := by decide +kernel
theorem dX6_markNeeded_0 : decode cX6_markNeeded 0 = .ok (.iconst (-1), 1) := by decide +kernel
theorem dX6_markNeeded_1 : decode cX6_markNeeded 1 = .ok (.istore_n 2, 1) := by decide +kernel
theorem dX6_markNeeded_2 : decode cX6_markNeeded 2 = .ok (.iload_n 2, 1) := by decide +kernel
theorem dX6_markNeeded_3 : decode cX6_markNeeded 3 = .ok (.iconst 1, 1) := by decide +kernel
theorem dX6_markNeeded_4 : decode cX6_markNeeded 4 = .ok (.if_icmp .gt 44, 3) := by decide +kernel
theorem dX6_markNeeded_7 : decode cX6_markNeeded 7 = .ok (.aload_n 0, 1) := by decide +kernel
theorem dX6_markNeeded_8 : decode cX6_markNeeded 8 = .ok (.getfield 35, 3) := by decide +kernel
theorem dX6_markNeeded_11 : decode cX6_markNeeded 11 = .ok (.iload_n 1, 1) := by decide +kernel
theorem dX6_markNeeded_12 : decode cX6_markNeeded 12 = .ok (.iload_n 2, 1) := by decide +kernel
theorem dX6_markNeeded_13 : decode cX6_markNeeded 13 = .ok (.invokevirtual 96, 3) := by decide +kernel
theorem dX6_markNeeded_16 : decode cX6_markNeeded 16 = .ok (.istore_n 3, 1) := by decide +kernel
theorem dX6_markNeeded_17 : decode cX6_markNeeded 17 = .ok (.iload_n 3, 1) := by decide +kernel
theorem dX6_markNeeded_18 : decode cX6_markNeeded 18 = .ok (.invokestatic 68, 3) := by decide +kernel
theorem dX6_markNeeded_21 : decode cX6_markNeeded 21 = .ok (.ifCond .eq 21, 3) := by decide +kernel
theorem dX6_markNeeded_24 : decode cX6_markNeeded 24 = .ok (.aload_n 0, 1) := by decide +kernel
theorem dX6_markNeeded_25 : decode cX6_markNeeded 25 = .ok (.getfield 35, 3) := by decide +kernel
theorem dX6_markNeeded_28 : decode cX6_markNeeded 28 = .ok (.iload_n 3, 1) := by decide +kernel
theorem dX6_markNeeded_29 : decode cX6_markNeeded 29 = .ok (.invokevirtual 99, 3) := by decide +kernel
theorem dX6_markNeeded_32 : decode cX6_markNeeded 32 = .ok (.ifCond .ne 10, 3) := by decide +kernel
theorem dX6_markNeeded_35 : decode cX6_markNeeded 35 = .ok (.aload_n 0, 1) := by decide +kernel
theorem dX6_markNeeded_36 : decode cX6_markNeeded 36 = .ok (.getfield 31, 3) := by decide +kernel
theorem dX6_markNeeded_39 : decode cX6_markNeeded 39 = .ok (.iload_n 3, 1) := by decide +kernel
theorem dX6_markNeeded_40 : decode cX6_markNeeded 40 = .ok (.iconst 1, 1) := by decide +kernel
theorem dX6_markNeeded_41 : decode cX6_markNeeded 41 = .ok (.bastore, 1) := by decide +kernel
theorem dX6_markNeeded_42 : decode cX6_markNeeded 42 = .ok (.iinc 2 1, 3) := by decide +kernel
theorem dX6_markNeeded_45 : decode cX6_markNeeded 45 = .ok (.goto (-43), 3) := by decide +kernel
theorem dX6_markNeeded_48 : decode cX6_markNeeded 48 = .ok (.return_, 1) := by decide +kernel
theorem dX7_init_0 : decode cX7_init 0 = .ok (.aload_n 0, 1) := by decide +kernel
theorem dX7_init_1 : decode cX7_init 1 = .ok (.invokespecial 3, 3) := by decide +kernel
theorem dX7_init_4 : decode cX7_init 4 = .ok (.aload_n 0, 1) := by decide +kernel
theorem dX7_init_5 : decode cX7_init 5 = .ok (.bipush 10, 2) := by decide +kernel
theorem dX7_init_7 : decode cX7_init 7 = .ok (.newarray .int, 2) := by decide +kernel
theorem dX7_init_9 : decode cX7_init 9 = .ok (.putfield 9, 3) := by decide +kernel
theorem dX7_init_12 : decode cX7_init 12 = .ok (.return_, 1) := by decide +kernel
theorem dX7_openWeek_0 : decode cX7_openWeek 0 = .ok (.aload_n 0, 1) := by decide +kernel
theorem dX7_openWeek_1 : decode cX7_openWeek 1 = .ok (.iconst 0, 1) := by decide +kernel
theorem dX7_openWeek_2 : decode cX7_openWeek 2 = .ok (.putfield 15, 3) := by decide +kernel
theorem dX7_openWeek_5 : decode cX7_openWeek 5 = .ok (.aload_n 0, 1) := by decide +kernel
theorem dX7_openWeek_6 : decode cX7_openWeek 6 = .ok (.iconst 0, 1) := by decide +kernel
theorem dX7_openWeek_7 : decode cX7_openWeek 7 = .ok (.putfield 19, 3) := by decide +kernel
theorem dX7_openWeek_10 : decode cX7_openWeek 10 = .ok (.return_, 1) := by decide +kernel
theorem dX7_feed_0 : decode cX7_feed 0 = .ok (.aload_n 0, 1) := by decide +kernel
theorem dX7_feed_1 : decode cX7_feed 1 = .ok (.getfield 15, 3) := by decide +kernel
theorem dX7_feed_4 : decode cX7_feed 4 = .ok (.ifCond .lt 62, 3) := by decide +kernel
theorem dX7_feed_7 : decode cX7_feed 7 = .ok (.aload_n 0, 1) := by decide +kernel
theorem dX7_feed_8 : decode cX7_feed 8 = .ok (.getfield 15, 3) := by decide +kernel
theorem dX7_feed_11 : decode cX7_feed 11 = .ok (.bipush 10, 2) := by decide +kernel
theorem dX7_feed_13 : decode cX7_feed 13 = .ok (.if_icmp .ge 53, 3) := by decide +kernel
theorem dX7_feed_16 : decode cX7_feed 16 = .ok (.aload_n 0, 1) := by decide +kernel
theorem dX7_feed_17 : decode cX7_feed 17 = .ok (.getfield 9, 3) := by decide +kernel
theorem dX7_feed_20 : decode cX7_feed 20 = .ok (.aload_n 0, 1) := by decide +kernel
theorem dX7_feed_21 : decode cX7_feed 21 = .ok (.getfield 15, 3) := by decide +kernel
theorem dX7_feed_24 : decode cX7_feed 24 = .ok (.iload_n 1, 1) := by decide +kernel
theorem dX7_feed_25 : decode cX7_feed 25 = .ok (.iastore, 1) := by decide +kernel
theorem dX7_feed_26 : decode cX7_feed 26 = .ok (.aload_n 0, 1) := by decide +kernel
theorem dX7_feed_27 : decode cX7_feed 27 = .ok (.dup, 1) := by decide +kernel
theorem dX7_feed_28 : decode cX7_feed 28 = .ok (.getfield 15, 3) := by decide +kernel
theorem dX7_feed_31 : decode cX7_feed 31 = .ok (.iconst 1, 1) := by decide +kernel
theorem dX7_feed_32 : decode cX7_feed 32 = .ok (.iadd, 1) := by decide +kernel
theorem dX7_feed_33 : decode cX7_feed 33 = .ok (.putfield 15, 3) := by decide +kernel
theorem dX7_feed_36 : decode cX7_feed 36 = .ok (.aload_n 0, 1) := by decide +kernel
theorem dX7_feed_37 : decode cX7_feed 37 = .ok (.dup, 1) := by decide +kernel
theorem dX7_feed_38 : decode cX7_feed 38 = .ok (.getfield 19, 3) := by decide +kernel
theorem dX7_feed_41 : decode cX7_feed 41 = .ok (.iload_n 1, 1) := by decide +kernel
theorem dX7_feed_42 : decode cX7_feed 42 = .ok (.iadd, 1) := by decide +kernel
theorem dX7_feed_43 : decode cX7_feed 43 = .ok (.putfield 19, 3) := by decide +kernel
theorem dX7_feed_46 : decode cX7_feed 46 = .ok (.aload_n 0, 1) := by decide +kernel
theorem dX7_feed_47 : decode cX7_feed 47 = .ok (.dup, 1) := by decide +kernel
theorem dX7_feed_48 : decode cX7_feed 48 = .ok (.getfield 22, 3) := by decide +kernel
theorem dX7_feed_51 : decode cX7_feed 51 = .ok (.iconst 1, 1) := by decide +kernel
theorem dX7_feed_52 : decode cX7_feed 52 = .ok (.iadd, 1) := by decide +kernel
theorem dX7_feed_53 : decode cX7_feed 53 = .ok (.putfield 22, 3) := by decide +kernel
theorem dX7_feed_56 : decode cX7_feed 56 = .ok (.aload_n 0, 1) := by decide +kernel
theorem dX7_feed_57 : decode cX7_feed 57 = .ok (.dup, 1) := by decide +kernel
theorem dX7_feed_58 : decode cX7_feed 58 = .ok (.getfield 25, 3) := by decide +kernel
theorem dX7_feed_61 : decode cX7_feed 61 = .ok (.iload_n 1, 1) := by decide +kernel
theorem dX7_feed_62 : decode cX7_feed 62 = .ok (.iadd, 1) := by decide +kernel
theorem dX7_feed_63 : decode cX7_feed 63 = .ok (.putfield 25, 3) := by decide +kernel
theorem dX7_feed_66 : decode cX7_feed 66 = .ok (.return_, 1) := by decide +kernel
theorem dX7_closeWeek_0 : decode cX7_closeWeek 0 = .ok (.aload_n 0, 1) := by decide +kernel
theorem dX7_closeWeek_1 : decode cX7_closeWeek 1 = .ok (.getfield 15, 3) := by decide +kernel
theorem dX7_closeWeek_4 : decode cX7_closeWeek 4 = .ok (.ifCond .gt 5, 3) := by decide +kernel
theorem dX7_closeWeek_7 : decode cX7_closeWeek 7 = .ok (.lconst 0, 1) := by decide +kernel
theorem dX7_closeWeek_8 : decode cX7_closeWeek 8 = .ok (.lreturn, 1) := by decide +kernel
theorem dX7_closeWeek_9 : decode cX7_closeWeek 9 = .ok (.aload_n 0, 1) := by decide +kernel
theorem dX7_closeWeek_10 : decode cX7_closeWeek 10 = .ok (.getfield 19, 3) := by decide +kernel
theorem dX7_closeWeek_13 : decode cX7_closeWeek 13 = .ok (.i2d, 1) := by decide +kernel
theorem dX7_closeWeek_14 : decode cX7_closeWeek 14 = .ok (.aload_n 0, 1) := by decide +kernel
theorem dX7_closeWeek_15 : decode cX7_closeWeek 15 = .ok (.getfield 15, 3) := by decide +kernel
theorem dX7_closeWeek_18 : decode cX7_closeWeek 18 = .ok (.i2d, 1) := by decide +kernel
theorem dX7_closeWeek_19 : decode cX7_closeWeek 19 = .ok (.ddiv, 1) := by decide +kernel
theorem dX7_closeWeek_20 : decode cX7_closeWeek 20 = .ok (.dstore_n 1, 1) := by decide +kernel
theorem dX7_closeWeek_21 : decode cX7_closeWeek 21 = .ok (.aload_n 0, 1) := by decide +kernel
theorem dX7_closeWeek_22 : decode cX7_closeWeek 22 = .ok (.aload_n 0, 1) := by decide +kernel
theorem dX7_closeWeek_23 : decode cX7_closeWeek 23 = .ok (.getfield 28, 3) := by decide +kernel
theorem dX7_closeWeek_26 : decode cX7_closeWeek 26 = .ok (.ifCond .eq 11, 3) := by decide +kernel
theorem dX7_closeWeek_29 : decode cX7_closeWeek 29 = .ok (.aload_n 0, 1) := by decide +kernel
theorem dX7_closeWeek_30 : decode cX7_closeWeek 30 = .ok (.dload_n 1, 1) := by decide +kernel
theorem dX7_closeWeek_31 : decode cX7_closeWeek 31 = .ok (.invokevirtual 32, 3) := by decide +kernel
theorem dX7_closeWeek_34 : decode cX7_closeWeek 34 = .ok (.goto 5, 3) := by decide +kernel
theorem dX7_closeWeek_37 : decode cX7_closeWeek 37 = .ok (.bipush 90, 2) := by decide +kernel
theorem dX7_closeWeek_39 : decode cX7_closeWeek 39 = .ok (.putfield 36, 3) := by decide +kernel
theorem dX7_closeWeek_42 : decode cX7_closeWeek 42 = .ok (.aload_n 0, 1) := by decide +kernel
theorem dX7_closeWeek_43 : decode cX7_closeWeek 43 = .ok (.dload_n 1, 1) := by decide +kernel
theorem dX7_closeWeek_44 : decode cX7_closeWeek 44 = .ok (.putfield 39, 3) := by decide +kernel
theorem dX7_closeWeek_47 : decode cX7_closeWeek 47 = .ok (.aload_n 0, 1) := by decide +kernel
theorem dX7_closeWeek_48 : decode cX7_closeWeek 48 = .ok (.iconst 1, 1) := by decide +kernel
theorem dX7_closeWeek_49 : decode cX7_closeWeek 49 = .ok (.putfield 28, 3) := by decide +kernel
theorem dX7_closeWeek_52 : decode cX7_closeWeek 52 = .ok (.lconst 0, 1) := by decide +kernel
theorem dX7_closeWeek_53 : decode cX7_closeWeek 53 = .ok (.lstore_n 3, 1) := by decide +kernel
theorem dX7_closeWeek_54 : decode cX7_closeWeek 54 = .ok (.iconst 0, 1) := by decide +kernel
theorem dX7_closeWeek_55 : decode cX7_closeWeek 55 = .ok (.istore 5, 2) := by decide +kernel
theorem dX7_closeWeek_57 : decode cX7_closeWeek 57 = .ok (.iload 5, 2) := by decide +kernel
theorem dX7_closeWeek_59 : decode cX7_closeWeek 59 = .ok (.aload_n 0, 1) := by decide +kernel
theorem dX7_closeWeek_60 : decode cX7_closeWeek 60 = .ok (.getfield 15, 3) := by decide +kernel
theorem dX7_closeWeek_63 : decode cX7_closeWeek 63 = .ok (.if_icmp .ge 38, 3) := by decide +kernel
theorem dX7_closeWeek_66 : decode cX7_closeWeek 66 = .ok (.iload 5, 2) := by decide +kernel
theorem dX7_closeWeek_68 : decode cX7_closeWeek 68 = .ok (.bipush 10, 2) := by decide +kernel
theorem dX7_closeWeek_70 : decode cX7_closeWeek 70 = .ok (.if_icmp .ge 31, 3) := by decide +kernel
theorem dX7_closeWeek_73 : decode cX7_closeWeek 73 = .ok (.lload_n 3, 1) := by decide +kernel
theorem dX7_closeWeek_74 : decode cX7_closeWeek 74 = .ok (.bipush 10, 2) := by decide +kernel
theorem dX7_closeWeek_76 : decode cX7_closeWeek 76 = .ok (.aload_n 0, 1) := by decide +kernel
theorem dX7_closeWeek_77 : decode cX7_closeWeek 77 = .ok (.getfield 9, 3) := by decide +kernel
theorem dX7_closeWeek_80 : decode cX7_closeWeek 80 = .ok (.iload 5, 2) := by decide +kernel
theorem dX7_closeWeek_82 : decode cX7_closeWeek 82 = .ok (.iaload, 1) := by decide +kernel
theorem dX7_closeWeek_83 : decode cX7_closeWeek 83 = .ok (.imul, 1) := by decide +kernel
theorem dX7_closeWeek_84 : decode cX7_closeWeek 84 = .ok (.aload_n 0, 1) := by decide +kernel
theorem dX7_closeWeek_85 : decode cX7_closeWeek 85 = .ok (.getfield 36, 3) := by decide +kernel
theorem dX7_closeWeek_88 : decode cX7_closeWeek 88 = .ok (.imul, 1) := by decide +kernel
theorem dX7_closeWeek_89 : decode cX7_closeWeek 89 = .ok (.bipush 100, 2) := by decide +kernel
theorem dX7_closeWeek_91 : decode cX7_closeWeek 91 = .ok (.idiv, 1) := by decide +kernel
theorem dX7_closeWeek_92 : decode cX7_closeWeek 92 = .ok (.i2l, 1) := by decide +kernel
theorem dX7_closeWeek_93 : decode cX7_closeWeek 93 = .ok (.ladd, 1) := by decide +kernel
theorem dX7_closeWeek_94 : decode cX7_closeWeek 94 = .ok (.lstore_n 3, 1) := by decide +kernel
theorem dX7_closeWeek_95 : decode cX7_closeWeek 95 = .ok (.iinc 5 1, 3) := by decide +kernel
theorem dX7_closeWeek_98 : decode cX7_closeWeek 98 = .ok (.goto (-41), 3) := by decide +kernel
theorem dX7_closeWeek_101 : decode cX7_closeWeek 101 = .ok (.aload_n 0, 1) := by decide +kernel
theorem dX7_closeWeek_102 : decode cX7_closeWeek 102 = .ok (.dup, 1) := by decide +kernel
theorem dX7_closeWeek_103 : decode cX7_closeWeek 103 = .ok (.getfield 43, 3) := by decide +kernel
theorem dX7_closeWeek_106 : decode cX7_closeWeek 106 = .ok (.lload_n 3, 1) := by decide +kernel
theorem dX7_closeWeek_107 : decode cX7_closeWeek 107 = .ok (.ladd, 1) := by decide +kernel
theorem dX7_closeWeek_108 : decode cX7_closeWeek 108 = .ok (.putfield 43, 3) := by decide +kernel
theorem dX7_closeWeek_111 : decode cX7_closeWeek 111 = .ok (.lload_n 3, 1) := by decide +kernel
theorem dX7_closeWeek_112 : decode cX7_closeWeek 112 = .ok (.lreturn, 1) := by decide +kernel
theorem dX7_recoveryAt_0 : decode cX7_recoveryAt 0 = .ok (.dload_n 1, 1) := by decide +kernel
theorem dX7_recoveryAt_1 : decode cX7_recoveryAt 1 = .ok (.aload_n 0, 1) := by decide +kernel
theorem dX7_recoveryAt_2 : decode cX7_recoveryAt 2 = .ok (.getfield 39, 3) := by decide +kernel
theorem dX7_recoveryAt_5 : decode cX7_recoveryAt 5 = .ok (.dcmp .g, 1) := by decide +kernel
theorem dX7_recoveryAt_6 : decode cX7_recoveryAt 6 = .ok (.ifCond .ge 12, 3) := by decide +kernel
theorem dX7_recoveryAt_9 : decode cX7_recoveryAt 9 = .ok (.aload_n 0, 1) := by decide +kernel
theorem dX7_recoveryAt_10 : decode cX7_recoveryAt 10 = .ok (.getfield 39, 3) := by decide +kernel
theorem dX7_recoveryAt_13 : decode cX7_recoveryAt 13 = .ok (.dload_n 1, 1) := by decide +kernel
theorem dX7_recoveryAt_14 : decode cX7_recoveryAt 14 = .ok (.dsub, 1) := by decide +kernel
theorem dX7_recoveryAt_15 : decode cX7_recoveryAt 15 = .ok (.goto 9, 3) := by decide +kernel
theorem dX7_recoveryAt_18 : decode cX7_recoveryAt 18 = .ok (.dload_n 1, 1) := by decide +kernel
theorem dX7_recoveryAt_19 : decode cX7_recoveryAt 19 = .ok (.aload_n 0, 1) := by decide +kernel
theorem dX7_recoveryAt_20 : decode cX7_recoveryAt 20 = .ok (.getfield 39, 3) := by decide +kernel
theorem dX7_recoveryAt_23 : decode cX7_recoveryAt 23 = .ok (.dsub, 1) := by decide +kernel
theorem dX7_recoveryAt_24 : decode cX7_recoveryAt 24 = .ok (.dstore_n 3, 1) := by decide +kernel
theorem dX7_recoveryAt_25 : decode cX7_recoveryAt 25 = .ok (.ldc2_w 47, 3) := by decide +kernel
theorem dX7_recoveryAt_28 : decode cX7_recoveryAt 28 = .ok (.dstore 5, 2) := by decide +kernel
theorem dX7_recoveryAt_30 : decode cX7_recoveryAt 30 = .ok (.ldc2_w 49, 3) := by decide +kernel
theorem dX7_recoveryAt_33 : decode cX7_recoveryAt 33 = .ok (.dload_n 3, 1) := by decide +kernel
theorem dX7_recoveryAt_34 : decode cX7_recoveryAt 34 = .ok (.dsub, 1) := by decide +kernel
theorem dX7_recoveryAt_35 : decode cX7_recoveryAt 35 = .ok (.dstore 7, 2) := by decide +kernel
theorem dX7_recoveryAt_37 : decode cX7_recoveryAt 37 = .ok (.dload 7, 2) := by decide +kernel
theorem dX7_recoveryAt_39 : decode cX7_recoveryAt 39 = .ok (.dload 5, 2) := by decide +kernel
theorem dX7_recoveryAt_41 : decode cX7_recoveryAt 41 = .ok (.dcmp .g, 1) := by decide +kernel
theorem dX7_recoveryAt_42 : decode cX7_recoveryAt 42 = .ok (.ifCond .ge 8, 3) := by decide +kernel
theorem dX7_recoveryAt_45 : decode cX7_recoveryAt 45 = .ok (.dload 5, 2) := by decide +kernel
theorem dX7_recoveryAt_47 : decode cX7_recoveryAt 47 = .ok (.goto 5, 3) := by decide +kernel
theorem dX7_recoveryAt_50 : decode cX7_recoveryAt 50 = .ok (.dload 7, 2) := by decide +kernel
theorem dX7_recoveryAt_52 : decode cX7_recoveryAt 52 = .ok (.invokestatic 51, 3) := by decide +kernel
theorem dX7_recoveryAt_55 : decode cX7_recoveryAt 55 = .ok (.ireturn, 1) := by decide +kernel
theorem dX8_init_0 : decode cX8_init 0 = .ok (.aload_n 0, 1) := by decide +kernel
theorem dX8_init_1 : decode cX8_init 1 = .ok (.invokespecial 1, 3) := by decide +kernel
theorem dX8_init_4 : decode cX8_init 4 = .ok (.return_, 1) := by decide +kernel
theorem dX8_rainAndPump_0 : decode cX8_rainAndPump 0 = .ok (.aload_n 0, 1) := by decide +kernel
theorem dX8_rainAndPump_1 : decode cX8_rainAndPump 1 = .ok (.dup, 1) := by decide +kernel
theorem dX8_rainAndPump_2 : decode cX8_rainAndPump 2 = .ok (.getfield 7, 3) := by decide +kernel
theorem dX8_rainAndPump_5 : decode cX8_rainAndPump 5 = .ok (.iload_n 1, 1) := by decide +kernel
theorem dX8_rainAndPump_6 : decode cX8_rainAndPump 6 = .ok (.iadd, 1) := by decide +kernel
theorem dX8_rainAndPump_7 : decode cX8_rainAndPump 7 = .ok (.putfield 7, 3) := by decide +kernel
theorem dX8_rainAndPump_10 : decode cX8_rainAndPump 10 = .ok (.iload_n 2, 1) := by decide +kernel
theorem dX8_rainAndPump_11 : decode cX8_rainAndPump 11 = .ok (.aload_n 0, 1) := by decide +kernel
theorem dX8_rainAndPump_12 : decode cX8_rainAndPump 12 = .ok (.getfield 7, 3) := by decide +kernel
theorem dX8_rainAndPump_15 : decode cX8_rainAndPump 15 = .ok (.invokestatic 13, 3) := by decide +kernel
theorem dX8_rainAndPump_18 : decode cX8_rainAndPump 18 = .ok (.istore_n 3, 1) := by decide +kernel
theorem dX8_rainAndPump_19 : decode cX8_rainAndPump 19 = .ok (.aload_n 0, 1) := by decide +kernel
theorem dX8_rainAndPump_20 : decode cX8_rainAndPump 20 = .ok (.dup, 1) := by decide +kernel
theorem dX8_rainAndPump_21 : decode cX8_rainAndPump 21 = .ok (.getfield 7, 3) := by decide +kernel
theorem dX8_rainAndPump_24 : decode cX8_rainAndPump 24 = .ok (.iload_n 3, 1) := by decide +kernel
theorem dX8_rainAndPump_25 : decode cX8_rainAndPump 25 = .ok (.isub, 1) := by decide +kernel
theorem dX8_rainAndPump_26 : decode cX8_rainAndPump 26 = .ok (.putfield 7, 3) := by decide +kernel
theorem dX8_rainAndPump_29 : decode cX8_rainAndPump 29 = .ok (.iload_n 3, 1) := by decide +kernel
theorem dX8_rainAndPump_30 : decode cX8_rainAndPump 30 = .ok (.ireturn, 1) := by decide +kernel
theorem dX9_init_0 : decode cX9_init 0 = .ok (.aload_n 0, 1) := by decide +kernel
theorem dX9_init_1 : decode cX9_init 1 = .ok (.invokespecial 1, 3) := by decide +kernel
theorem dX9_init_4 : decode cX9_init 4 = .ok (.aload_n 0, 1) := by decide +kernel
theorem dX9_init_5 : decode cX9_init 5 = .ok (.new 7, 3) := by decide +kernel
theorem dX9_init_8 : decode cX9_init 8 = .ok (.dup, 1) := by decide +kernel
theorem dX9_init_9 : decode cX9_init 9 = .ok (.invokespecial 9, 3) := by decide +kernel
theorem dX9_init_12 : decode cX9_init 12 = .ok (.putfield 10, 3) := by decide +kernel
end
section
theorem dX9_init_15 : decode cX9_init 15 = .ok (.aload_n 0, 1) := by decide +kernel
theorem dX9_init_16 : decode cX9_init 16 = .ok (.new 16, 3) := by decide +kernel
theorem dX9_init_19 : decode cX9_init 19 = .ok (.dup, 1) := by decide +kernel
theorem dX9_init_20 : decode cX9_init 20 = .ok (.invokespecial 18, 3) := by decide +kernel
theorem dX9_init_23 : decode cX9_init 23 = .ok (.putfield 19, 3) := by decide +kernel
theorem dX9_init_26 : decode cX9_init 26 = .ok (.aload_n 0, 1) := by decide +kernel
theorem dX9_init_27 : decode cX9_init 27 = .ok (.new 23, 3) := by decide +kernel
theorem dX9_init_30 : decode cX9_init 30 = .ok (.dup, 1) := by decide +kernel
theorem dX9_init_31 : decode cX9_init 31 = .ok (.aload_n 0, 1) := by decide +kernel
theorem dX9_init_32 : decode cX9_init 32 = .ok (.getfield 10, 3) := by decide +kernel
theorem dX9_init_35 : decode cX9_init 35 = .ok (.aload_n 0, 1) := by decide +kernel
theorem dX9_init_36 : decode cX9_init 36 = .ok (.getfield 19, 3) := by decide +kernel
theorem dX9_init_39 : decode cX9_init 39 = .ok (.invokespecial 25, 3) := by decide +kernel
theorem dX9_init_42 : decode cX9_init 42 = .ok (.putfield 28, 3) := by decide +kernel
theorem dX9_init_45 : decode cX9_init 45 = .ok (.aload_n 0, 1) := by decide +kernel
theorem dX9_init_46 : decode cX9_init 46 = .ok (.new 32, 3) := by decide +kernel
theorem dX9_init_49 : decode cX9_init 49 = .ok (.dup, 1) := by decide +kernel
theorem dX9_init_50 : decode cX9_init 50 = .ok (.aload_n 0, 1) := by decide +kernel
theorem dX9_init_51 : decode cX9_init 51 = .ok (.getfield 10, 3) := by decide +kernel
theorem dX9_init_54 : decode cX9_init 54 = .ok (.aload_n 0, 1) := by decide +kernel
theorem dX9_init_55 : decode cX9_init 55 = .ok (.getfield 28, 3) := by decide +kernel
theorem dX9_init_58 : decode cX9_init 58 = .ok (.invokespecial 34, 3) := by decide +kernel
theorem dX9_init_61 : decode cX9_init 61 = .ok (.putfield 37, 3) := by decide +kernel
theorem dX9_init_64 : decode cX9_init 64 = .ok (.aload_n 0, 1) := by decide +kernel
theorem dX9_init_65 : decode cX9_init 65 = .ok (.new 41, 3) := by decide +kernel
theorem dX9_init_68 : decode cX9_init 68 = .ok (.dup, 1) := by decide +kernel
theorem dX9_init_69 : decode cX9_init 69 = .ok (.invokespecial 43, 3) := by decide +kernel
theorem dX9_init_72 : decode cX9_init 72 = .ok (.putfield 44, 3) := by decide +kernel
theorem dX9_init_75 : decode cX9_init 75 = .ok (.aload_n 0, 1) := by decide +kernel
theorem dX9_init_76 : decode cX9_init 76 = .ok (.new 48, 3) := by decide +kernel
theorem dX9_init_79 : decode cX9_init 79 = .ok (.dup, 1) := by decide +kernel
theorem dX9_init_80 : decode cX9_init 80 = .ok (.invokespecial 50, 3) := by decide +kernel
theorem dX9_init_83 : decode cX9_init 83 = .ok (.putfield 51, 3) := by decide +kernel
theorem dX9_init_86 : decode cX9_init 86 = .ok (.aload_n 0, 1) := by decide +kernel
theorem dX9_init_87 : decode cX9_init 87 = .ok (.new 55, 3) := by decide +kernel
theorem dX9_init_90 : decode cX9_init 90 = .ok (.dup, 1) := by decide +kernel
theorem dX9_init_91 : decode cX9_init 91 = .ok (.invokespecial 57, 3) := by decide +kernel
theorem dX9_init_94 : decode cX9_init 94 = .ok (.putfield 58, 3) := by decide +kernel
theorem dX9_init_97 : decode cX9_init 97 = .ok (.aload_n 0, 1) := by decide +kernel
theorem dX9_init_98 : decode cX9_init 98 = .ok (.new 62, 3) := by decide +kernel
theorem dX9_init_101 : decode cX9_init 101 = .ok (.dup, 1) := by decide +kernel
theorem dX9_init_102 : decode cX9_init 102 = .ok (.invokespecial 64, 3) := by decide +kernel
theorem dX9_init_105 : decode cX9_init 105 = .ok (.putfield 65, 3) := by decide +kernel
theorem dX9_init_108 : decode cX9_init 108 = .ok (.aload_n 0, 1) := by decide +kernel
theorem dX9_init_109 : decode cX9_init 109 = .ok (.new 69, 3) := by decide +kernel
theorem dX9_init_112 : decode cX9_init 112 = .ok (.dup, 1) := by decide +kernel
theorem dX9_init_113 : decode cX9_init 113 = .ok (.invokespecial 71, 3) := by decide +kernel
theorem dX9_init_116 : decode cX9_init 116 = .ok (.putfield 72, 3) := by decide +kernel
theorem dX9_init_119 : decode cX9_init 119 = .ok (.return_, 1) := by decide +kernel
theorem dX9_rock_0 : decode cX9_rock 0 = .ok (.iload_n 1, 1) := by decide +kernel
theorem dX9_rock_1 : decode cX9_rock 1 = .ok (.invokestatic 76, 3) := by decide +kernel
theorem dX9_rock_4 : decode cX9_rock 4 = .ok (.iload_n 2, 1) := by decide +kernel
theorem dX9_rock_5 : decode cX9_rock 5 = .ok (.bipush 115, 2) := by decide +kernel
theorem dX9_rock_7 : decode cX9_rock 7 = .ok (.if_icmp .eq 19, 3) := by decide +kernel
theorem dX9_rock_10 : decode cX9_rock 10 = .ok (.iload_n 2, 1) := by decide +kernel
theorem dX9_rock_11 : decode cX9_rock 11 = .ok (.bipush 104, 2) := by decide +kernel
theorem dX9_rock_13 : decode cX9_rock 13 = .ok (.if_icmp .eq 13, 3) := by decide +kernel
theorem dX9_rock_16 : decode cX9_rock 16 = .ok (.new 80, 3) := by decide +kernel
theorem dX9_rock_19 : decode cX9_rock 19 = .ok (.dup, 1) := by decide +kernel
theorem dX9_rock_20 : decode cX9_rock 20 = .ok (.ldc 82, 2) := by decide +kernel
theorem dX9_rock_22 : decode cX9_rock 22 = .ok (.invokespecial 84, 3) := by decide +kernel
theorem dX9_rock_25 : decode cX9_rock 25 = .ok (.athrow, 1) := by decide +kernel
theorem dX9_rock_26 : decode cX9_rock 26 = .ok (.aload_n 0, 1) := by decide +kernel
theorem dX9_rock_27 : decode cX9_rock 27 = .ok (.iload_n 1, 1) := by decide +kernel
theorem dX9_rock_28 : decode cX9_rock 28 = .ok (.invokevirtual 87, 3) := by decide +kernel
theorem dX9_rock_31 : decode cX9_rock 31 = .ok (.aload_n 0, 1) := by decide +kernel
theorem dX9_rock_32 : decode cX9_rock 32 = .ok (.getfield 10, 3) := by decide +kernel
theorem dX9_rock_35 : decode cX9_rock 35 = .ok (.iload_n 1, 1) := by decide +kernel
theorem dX9_rock_36 : decode cX9_rock 36 = .ok (.invokevirtual 90, 3) := by decide +kernel
theorem dX9_rock_39 : decode cX9_rock 39 = .ok (.ifCond .eq 8, 3) := by decide +kernel
theorem dX9_rock_42 : decode cX9_rock 42 = .ok (.bipush 104, 2) := by decide +kernel
theorem dX9_rock_44 : decode cX9_rock 44 = .ok (.goto 5, 3) := by decide +kernel
theorem dX9_rock_47 : decode cX9_rock 47 = .ok (.bipush 115, 2) := by decide +kernel
theorem dX9_rock_49 : decode cX9_rock 49 = .ok (.istore_n 3, 1) := by decide +kernel
theorem dX9_rock_50 : decode cX9_rock 50 = .ok (.aload_n 0, 1) := by decide +kernel
theorem dX9_rock_51 : decode cX9_rock 51 = .ok (.getfield 10, 3) := by decide +kernel
theorem dX9_rock_54 : decode cX9_rock 54 = .ok (.iload_n 1, 1) := by decide +kernel
theorem dX9_rock_55 : decode cX9_rock 55 = .ok (.iload_n 2, 1) := by decide +kernel
theorem dX9_rock_56 : decode cX9_rock 56 = .ok (.bipush 104, 2) := by decide +kernel
theorem dX9_rock_58 : decode cX9_rock 58 = .ok (.if_icmp .ne 7, 3) := by decide +kernel
theorem dX9_rock_61 : decode cX9_rock 61 = .ok (.iconst 1, 1) := by decide +kernel
theorem dX9_rock_62 : decode cX9_rock 62 = .ok (.goto 4, 3) := by decide +kernel
theorem dX9_rock_65 : decode cX9_rock 65 = .ok (.iconst 0, 1) := by decide +kernel
theorem dX9_rock_66 : decode cX9_rock 66 = .ok (.invokevirtual 94, 3) := by decide +kernel
theorem dX9_rock_69 : decode cX9_rock 69 = .ok (.aload_n 0, 1) := by decide +kernel
theorem dX9_rock_70 : decode cX9_rock 70 = .ok (.getfield 37, 3) := by decide +kernel
theorem dX9_rock_73 : decode cX9_rock 73 = .ok (.invokevirtual 98, 3) := by decide +kernel
theorem dX9_rock_76 : decode cX9_rock 76 = .ok (.iload_n 3, 1) := by decide +kernel
theorem dX9_rock_77 : decode cX9_rock 77 = .ok (.ireturn, 1) := by decide +kernel
theorem dX9_sample_0 : decode cX9_sample 0 = .ok (.iload_n 1, 1) := by decide +kernel
theorem dX9_sample_1 : decode cX9_sample 1 = .ok (.invokestatic 76, 3) := by decide +kernel
theorem dX9_sample_4 : decode cX9_sample 4 = .ok (.iload_n 2, 1) := by decide +kernel
theorem dX9_sample_5 : decode cX9_sample 5 = .ok (.invokestatic 101, 3) := by decide +kernel
theorem dX9_sample_8 : decode cX9_sample 8 = .ok (.aload_n 0, 1) := by decide +kernel
theorem dX9_sample_9 : decode cX9_sample 9 = .ok (.getfield 19, 3) := by decide +kernel
theorem dX9_sample_12 : decode cX9_sample 12 = .ok (.invokevirtual 104, 3) := by decide +kernel
theorem dX9_sample_15 : decode cX9_sample 15 = .ok (.ifCond .eq 13, 3) := by decide +kernel
theorem dX9_sample_18 : decode cX9_sample 18 = .ok (.new 108, 3) := by decide +kernel
theorem dX9_sample_21 : decode cX9_sample 21 = .ok (.dup, 1) := by decide +kernel
theorem dX9_sample_22 : decode cX9_sample 22 = .ok (.ldc 110, 2) := by decide +kernel
theorem dX9_sample_24 : decode cX9_sample 24 = .ok (.invokespecial 112, 3) := by decide +kernel
theorem dX9_sample_27 : decode cX9_sample 27 = .ok (.athrow, 1) := by decide +kernel
theorem dX9_sample_28 : decode cX9_sample 28 = .ok (.aload_n 0, 1) := by decide +kernel
theorem dX9_sample_29 : decode cX9_sample 29 = .ok (.getfield 19, 3) := by decide +kernel
theorem dX9_sample_32 : decode cX9_sample 32 = .ok (.iload_n 1, 1) := by decide +kernel
theorem dX9_sample_33 : decode cX9_sample 33 = .ok (.iload_n 2, 1) := by decide +kernel
theorem dX9_sample_34 : decode cX9_sample 34 = .ok (.invokevirtual 113, 3) := by decide +kernel
theorem dX9_sample_37 : decode cX9_sample 37 = .ok (.aload_n 0, 1) := by decide +kernel
theorem dX9_sample_38 : decode cX9_sample 38 = .ok (.getfield 37, 3) := by decide +kernel
theorem dX9_sample_41 : decode cX9_sample 41 = .ok (.invokevirtual 98, 3) := by decide +kernel
theorem dX9_sample_44 : decode cX9_sample 44 = .ok (.aload_n 0, 1) := by decide +kernel
theorem dX9_sample_45 : decode cX9_sample 45 = .ok (.getfield 19, 3) := by decide +kernel
theorem dX9_sample_48 : decode cX9_sample 48 = .ok (.getfield 117, 3) := by decide +kernel
theorem dX9_sample_51 : decode cX9_sample 51 = .ok (.ireturn, 1) := by decide +kernel
theorem dX9_tellTruth_0 : decode cX9_tellTruth 0 = .ok (.iload_n 1, 1) := by decide +kernel
theorem dX9_tellTruth_1 : decode cX9_tellTruth 1 = .ok (.invokestatic 76, 3) := by decide +kernel
theorem dX9_tellTruth_4 : decode cX9_tellTruth 4 = .ok (.iload_n 2, 1) := by decide +kernel
theorem dX9_tellTruth_5 : decode cX9_tellTruth 5 = .ok (.invokestatic 101, 3) := by decide +kernel
theorem dX9_tellTruth_8 : decode cX9_tellTruth 8 = .ok (.aload_n 0, 1) := by decide +kernel
theorem dX9_tellTruth_9 : decode cX9_tellTruth 9 = .ok (.iload_n 1, 1) := by decide +kernel
theorem dX9_tellTruth_10 : decode cX9_tellTruth 10 = .ok (.invokevirtual 87, 3) := by decide +kernel
theorem dX9_tellTruth_13 : decode cX9_tellTruth 13 = .ok (.aload_n 0, 1) := by decide +kernel
theorem dX9_tellTruth_14 : decode cX9_tellTruth 14 = .ok (.getfield 72, 3) := by decide +kernel
theorem dX9_tellTruth_17 : decode cX9_tellTruth 17 = .ok (.iload_n 1, 1) := by decide +kernel
theorem dX9_tellTruth_18 : decode cX9_tellTruth 18 = .ok (.invokevirtual 121, 3) := by decide +kernel
theorem dX9_tellTruth_21 : decode cX9_tellTruth 21 = .ok (.istore_n 3, 1) := by decide +kernel
theorem dX9_tellTruth_22 : decode cX9_tellTruth 22 = .ok (.aload_n 0, 1) := by decide +kernel
theorem dX9_tellTruth_23 : decode cX9_tellTruth 23 = .ok (.getfield 72, 3) := by decide +kernel
theorem dX9_tellTruth_26 : decode cX9_tellTruth 26 = .ok (.iload_n 1, 1) := by decide +kernel
theorem dX9_tellTruth_27 : decode cX9_tellTruth 27 = .ok (.iload_n 2, 1) := by decide +kernel
theorem dX9_tellTruth_28 : decode cX9_tellTruth 28 = .ok (.invokevirtual 125, 3) := by decide +kernel
theorem dX9_tellTruth_31 : decode cX9_tellTruth 31 = .ok (.iload_n 3, 1) := by decide +kernel
theorem dX9_tellTruth_32 : decode cX9_tellTruth 32 = .ok (.ireturn, 1) := by decide +kernel
theorem dX9_grade_0 : decode cX9_grade 0 = .ok (.iload_n 1, 1) := by decide +kernel
theorem dX9_grade_1 : decode cX9_grade 1 = .ok (.invokestatic 76, 3) := by decide +kernel
theorem dX9_grade_4 : decode cX9_grade 4 = .ok (.aload_n 0, 1) := by decide +kernel
theorem dX9_grade_5 : decode cX9_grade 5 = .ok (.getfield 19, 3) := by decide +kernel
theorem dX9_grade_8 : decode cX9_grade 8 = .ok (.iload_n 1, 1) := by decide +kernel
theorem dX9_grade_9 : decode cX9_grade 9 = .ok (.invokevirtual 128, 3) := by decide +kernel
theorem dX9_grade_12 : decode cX9_grade 12 = .ok (.ireturn, 1) := by decide +kernel
theorem dX9_worth_0 : decode cX9_worth 0 = .ok (.iload_n 1, 1) := by decide +kernel
theorem dX9_worth_1 : decode cX9_worth 1 = .ok (.invokestatic 76, 3) := by decide +kernel
theorem dX9_worth_4 : decode cX9_worth 4 = .ok (.iload_n 2, 1) := by decide +kernel
theorem dX9_worth_5 : decode cX9_worth 5 = .ok (.invokestatic 101, 3) := by decide +kernel
theorem dX9_worth_8 : decode cX9_worth 8 = .ok (.aload_n 0, 1) := by decide +kernel
theorem dX9_worth_9 : decode cX9_worth 9 = .ok (.getfield 19, 3) := by decide +kernel
theorem dX9_worth_12 : decode cX9_worth 12 = .ok (.iload_n 1, 1) := by decide +kernel
theorem dX9_worth_13 : decode cX9_worth 13 = .ok (.iload_n 2, 1) := by decide +kernel
theorem dX9_worth_14 : decode cX9_worth 14 = .ok (.invokevirtual 131, 3) := by decide +kernel
theorem dX9_worth_17 : decode cX9_worth 17 = .ok (.ireturn, 1) := by decide +kernel
theorem dX9_isFree_0 : decode cX9_isFree 0 = .ok (.iload_n 1, 1) := by decide +kernel
theorem dX9_isFree_1 : decode cX9_isFree 1 = .ok (.invokestatic 76, 3) := by decide +kernel
theorem dX9_isFree_4 : decode cX9_isFree 4 = .ok (.aload_n 0, 1) := by decide +kernel
theorem dX9_isFree_5 : decode cX9_isFree 5 = .ok (.getfield 10, 3) := by decide +kernel
theorem dX9_isFree_8 : decode cX9_isFree 8 = .ok (.iload_n 1, 1) := by decide +kernel
theorem dX9_isFree_9 : decode cX9_isFree 9 = .ok (.invokevirtual 135, 3) := by decide +kernel
theorem dX9_isFree_12 : decode cX9_isFree 12 = .ok (.ireturn, 1) := by decide +kernel
theorem dX9_isDug_0 : decode cX9_isDug 0 = .ok (.iload_n 1, 1) := by decide +kernel
theorem dX9_isDug_1 : decode cX9_isDug 1 = .ok (.invokestatic 76, 3) := by decide +kernel
theorem dX9_isDug_4 : decode cX9_isDug 4 = .ok (.aload_n 0, 1) := by decide +kernel
theorem dX9_isDug_5 : decode cX9_isDug 5 = .ok (.getfield 10, 3) := by decide +kernel
theorem dX9_isDug_8 : decode cX9_isDug 8 = .ok (.iload_n 1, 1) := by decide +kernel
theorem dX9_isDug_9 : decode cX9_isDug 9 = .ok (.invokevirtual 138, 3) := by decide +kernel
theorem dX9_isDug_12 : decode cX9_isDug 12 = .ok (.ireturn, 1) := by decide +kernel
theorem dX9_pitWorth_0 : decode cX9_pitWorth 0 = .ok (.iload_n 1, 1) := by decide +kernel
theorem dX9_pitWorth_1 : decode cX9_pitWorth 1 = .ok (.invokestatic 101, 3) := by decide +kernel
theorem dX9_pitWorth_4 : decode cX9_pitWorth 4 = .ok (.aload_n 0, 1) := by decide +kernel
theorem dX9_pitWorth_5 : decode cX9_pitWorth 5 = .ok (.getfield 28, 3) := by decide +kernel
theorem dX9_pitWorth_8 : decode cX9_pitWorth 8 = .ok (.iload_n 1, 1) := by decide +kernel
theorem dX9_pitWorth_9 : decode cX9_pitWorth 9 = .ok (.invokevirtual 141, 3) := by decide +kernel
theorem dX9_pitWorth_12 : decode cX9_pitWorth 12 = .ok (.aload_n 0, 1) := by decide +kernel
theorem dX9_pitWorth_13 : decode cX9_pitWorth 13 = .ok (.getfield 28, 3) := by decide +kernel
theorem dX9_pitWorth_16 : decode cX9_pitWorth 16 = .ok (.getfield 144, 3) := by decide +kernel
theorem dX9_pitWorth_19 : decode cX9_pitWorth 19 = .ok (.lreturn, 1) := by decide +kernel
theorem dX9_pitSize_0 : decode cX9_pitSize 0 = .ok (.iload_n 1, 1) := by decide +kernel
theorem dX9_pitSize_1 : decode cX9_pitSize 1 = .ok (.invokestatic 101, 3) := by decide +kernel
theorem dX9_pitSize_4 : decode cX9_pitSize 4 = .ok (.aload_n 0, 1) := by decide +kernel
theorem dX9_pitSize_5 : decode cX9_pitSize 5 = .ok (.getfield 28, 3) := by decide +kernel
theorem dX9_pitSize_8 : decode cX9_pitSize 8 = .ok (.iload_n 1, 1) := by decide +kernel
theorem dX9_pitSize_9 : decode cX9_pitSize 9 = .ok (.invokevirtual 141, 3) := by decide +kernel
theorem dX9_pitSize_12 : decode cX9_pitSize 12 = .ok (.aload_n 0, 1) := by decide +kernel
theorem dX9_pitSize_13 : decode cX9_pitSize 13 = .ok (.getfield 28, 3) := by decide +kernel
theorem dX9_pitSize_16 : decode cX9_pitSize 16 = .ok (.getfield 148, 3) := by decide +kernel
theorem dX9_pitSize_19 : decode cX9_pitSize 19 = .ok (.ireturn, 1) := by decide +kernel
theorem dX9_isInPit_0 : decode cX9_isInPit 0 = .ok (.iload_n 1, 1) := by decide +kernel
theorem dX9_isInPit_1 : decode cX9_isInPit 1 = .ok (.invokestatic 101, 3) := by decide +kernel
theorem dX9_isInPit_4 : decode cX9_isInPit 4 = .ok (.iload_n 2, 1) := by decide +kernel
theorem dX9_isInPit_5 : decode cX9_isInPit 5 = .ok (.invokestatic 76, 3) := by decide +kernel
theorem dX9_isInPit_8 : decode cX9_isInPit 8 = .ok (.aload_n 0, 1) := by decide +kernel
theorem dX9_isInPit_9 : decode cX9_isInPit 9 = .ok (.getfield 28, 3) := by decide +kernel
theorem dX9_isInPit_12 : decode cX9_isInPit 12 = .ok (.iload_n 1, 1) := by decide +kernel
theorem dX9_isInPit_13 : decode cX9_isInPit 13 = .ok (.invokevirtual 141, 3) := by decide +kernel
theorem dX9_isInPit_16 : decode cX9_isInPit 16 = .ok (.aload_n 0, 1) := by decide +kernel
theorem dX9_isInPit_17 : decode cX9_isInPit 17 = .ok (.getfield 28, 3) := by decide +kernel
theorem dX9_isInPit_20 : decode cX9_isInPit 20 = .ok (.iload_n 2, 1) := by decide +kernel
theorem dX9_isInPit_21 : decode cX9_isInPit 21 = .ok (.invokevirtual 151, 3) := by decide +kernel
theorem dX9_isInPit_24 : decode cX9_isInPit 24 = .ok (.ireturn, 1) := by decide +kernel
theorem dX9_worthWith_0 : decode cX9_worthWith 0 = .ok (.iload_n 1, 1) := by decide +kernel
theorem dX9_worthWith_1 : decode cX9_worthWith 1 = .ok (.invokestatic 101, 3) := by decide +kernel
theorem dX9_worthWith_4 : decode cX9_worthWith 4 = .ok (.iload_n 2, 1) := by decide +kernel
theorem dX9_worthWith_5 : decode cX9_worthWith 5 = .ok (.invokestatic 76, 3) := by decide +kernel
theorem dX9_worthWith_8 : decode cX9_worthWith 8 = .ok (.aload_n 0, 1) := by decide +kernel
theorem dX9_worthWith_9 : decode cX9_worthWith 9 = .ok (.iload_n 2, 1) := by decide +kernel
theorem dX9_worthWith_10 : decode cX9_worthWith 10 = .ok (.invokevirtual 87, 3) := by decide +kernel
theorem dX9_worthWith_13 : decode cX9_worthWith 13 = .ok (.aload_n 0, 1) := by decide +kernel
theorem dX9_worthWith_14 : decode cX9_worthWith 14 = .ok (.getfield 28, 3) := by decide +kernel
theorem dX9_worthWith_17 : decode cX9_worthWith 17 = .ok (.iload_n 1, 1) := by decide +kernel
theorem dX9_worthWith_18 : decode cX9_worthWith 18 = .ok (.iload_n 2, 1) := by decide +kernel
theorem dX9_worthWith_19 : decode cX9_worthWith 19 = .ok (.invokevirtual 154, 3) := by decide +kernel
theorem dX9_worthWith_22 : decode cX9_worthWith 22 = .ok (.lreturn, 1) := by decide +kernel
theorem dX9_phase_0 : decode cX9_phase 0 = .ok (.iload_n 1, 1) := by decide +kernel
theorem dX9_phase_1 : decode cX9_phase 1 = .ok (.invokestatic 101, 3) := by decide +kernel
theorem dX9_phase_4 : decode cX9_phase 4 = .ok (.iload_n 1, 1) := by decide +kernel
theorem dX9_phase_5 : decode cX9_phase 5 = .ok (.aload_n 0, 1) := by decide +kernel
theorem dX9_phase_6 : decode cX9_phase 6 = .ok (.getfield 37, 3) := by decide +kernel
theorem dX9_phase_9 : decode cX9_phase 9 = .ok (.invokevirtual 158, 3) := by decide +kernel
theorem dX9_phase_12 : decode cX9_phase 12 = .ok (.if_icmp .gt 13, 3) := by decide +kernel
theorem dX9_phase_15 : decode cX9_phase 15 = .ok (.new 80, 3) := by decide +kernel
theorem dX9_phase_18 : decode cX9_phase 18 = .ok (.dup, 1) := by decide +kernel
theorem dX9_phase_19 : decode cX9_phase 19 = .ok (.ldc 162, 2) := by decide +kernel
theorem dX9_phase_21 : decode cX9_phase 21 = .ok (.invokespecial 84, 3) := by decide +kernel
theorem dX9_phase_24 : decode cX9_phase 24 = .ok (.athrow, 1) := by decide +kernel
theorem dX9_phase_25 : decode cX9_phase 25 = .ok (.aload_n 0, 1) := by decide +kernel
theorem dX9_phase_26 : decode cX9_phase 26 = .ok (.getfield 37, 3) := by decide +kernel
theorem dX9_phase_29 : decode cX9_phase 29 = .ok (.invokevirtual 164, 3) := by decide +kernel
theorem dX9_phase_32 : decode cX9_phase 32 = .ok (.ifCond .eq 13, 3) := by decide +kernel
theorem dX9_phase_35 : decode cX9_phase 35 = .ok (.new 108, 3) := by decide +kernel
theorem dX9_phase_38 : decode cX9_phase 38 = .ok (.dup, 1) := by decide +kernel
theorem dX9_phase_39 : decode cX9_phase 39 = .ok (.ldc 165, 2) := by decide +kernel
theorem dX9_phase_41 : decode cX9_phase 41 = .ok (.invokespecial 112, 3) := by decide +kernel
theorem dX9_phase_44 : decode cX9_phase 44 = .ok (.athrow, 1) := by decide +kernel
theorem dX9_phase_45 : decode cX9_phase 45 = .ok (.aload_n 0, 1) := by decide +kernel
theorem dX9_phase_46 : decode cX9_phase 46 = .ok (.getfield 37, 3) := by decide +kernel
theorem dX9_phase_49 : decode cX9_phase 49 = .ok (.iload_n 1, 1) := by decide +kernel
theorem dX9_phase_50 : decode cX9_phase 50 = .ok (.invokevirtual 167, 3) := by decide +kernel
theorem dX9_phase_53 : decode cX9_phase 53 = .ok (.aload_n 0, 1) := by decide +kernel
theorem dX9_phase_54 : decode cX9_phase 54 = .ok (.getfield 37, 3) := by decide +kernel
theorem dX9_phase_57 : decode cX9_phase 57 = .ok (.getfield 170, 3) := by decide +kernel
theorem dX9_phase_60 : decode cX9_phase 60 = .ok (.ireturn, 1) := by decide +kernel
theorem dX9_clearPhases_0 : decode cX9_clearPhases 0 = .ok (.aload_n 0, 1) := by decide +kernel
theorem dX9_clearPhases_1 : decode cX9_clearPhases 1 = .ok (.getfield 37, 3) := by decide +kernel
theorem dX9_clearPhases_4 : decode cX9_clearPhases 4 = .ok (.getfield 170, 3) := by decide +kernel
theorem dX9_clearPhases_7 : decode cX9_clearPhases 7 = .ok (.istore_n 1, 1) := by decide +kernel
theorem dX9_clearPhases_8 : decode cX9_clearPhases 8 = .ok (.aload_n 0, 1) := by decide +kernel
theorem dX9_clearPhases_9 : decode cX9_clearPhases 9 = .ok (.getfield 37, 3) := by decide +kernel
theorem dX9_clearPhases_12 : decode cX9_clearPhases 12 = .ok (.invokevirtual 173, 3) := by decide +kernel
theorem dX9_clearPhases_15 : decode cX9_clearPhases 15 = .ok (.iload_n 1, 1) := by decide +kernel
theorem dX9_clearPhases_16 : decode cX9_clearPhases 16 = .ok (.ireturn, 1) := by decide +kernel
theorem dX9_phaseOf_0 : decode cX9_phaseOf 0 = .ok (.iload_n 1, 1) := by decide +kernel
theorem dX9_phaseOf_1 : decode cX9_phaseOf 1 = .ok (.invokestatic 76, 3) := by decide +kernel
theorem dX9_phaseOf_4 : decode cX9_phaseOf 4 = .ok (.aload_n 0, 1) := by decide +kernel
theorem dX9_phaseOf_5 : decode cX9_phaseOf 5 = .ok (.getfield 37, 3) := by decide +kernel
theorem dX9_phaseOf_8 : decode cX9_phaseOf 8 = .ok (.invokevirtual 176, 3) := by decide +kernel
theorem dX9_phaseOf_11 : decode cX9_phaseOf 11 = .ok (.aload_n 0, 1) := by decide +kernel
theorem dX9_phaseOf_12 : decode cX9_phaseOf 12 = .ok (.getfield 37, 3) := by decide +kernel
theorem dX9_phaseOf_15 : decode cX9_phaseOf 15 = .ok (.iload_n 1, 1) := by decide +kernel
theorem dX9_phaseOf_16 : decode cX9_phaseOf 16 = .ok (.invokevirtual 179, 3) := by decide +kernel
theorem dX9_phaseOf_19 : decode cX9_phaseOf 19 = .ok (.ireturn, 1) := by decide +kernel
theorem dX9_set_0 : decode cX9_set 0 = .ok (.aload_n 0, 1) := by decide +kernel
theorem dX9_set_1 : decode cX9_set 1 = .ok (.getfield 44, 3) := by decide +kernel
theorem dX9_set_4 : decode cX9_set 4 = .ok (.iload_n 1, 1) := by decide +kernel
theorem dX9_set_5 : decode cX9_set 5 = .ok (.invokevirtual 182, 3) := by decide +kernel
theorem dX9_set_8 : decode cX9_set 8 = .ok (.istore_n 3, 1) := by decide +kernel
theorem dX9_set_9 : decode cX9_set 9 = .ok (.iload_n 3, 1) := by decide +kernel
theorem dX9_set_10 : decode cX9_set 10 = .ok (.ifCond .ge 13, 3) := by decide +kernel
theorem dX9_set_13 : decode cX9_set 13 = .ok (.new 80, 3) := by decide +kernel
theorem dX9_set_16 : decode cX9_set 16 = .ok (.dup, 1) := by decide +kernel
theorem dX9_set_17 : decode cX9_set 17 = .ok (.ldc 186, 2) := by decide +kernel
theorem dX9_set_19 : decode cX9_set 19 = .ok (.invokespecial 84, 3) := by decide +kernel
theorem dX9_set_22 : decode cX9_set 22 = .ok (.athrow, 1) := by decide +kernel
theorem dX9_set_23 : decode cX9_set 23 = .ok (.iload_n 2, 1) := by decide +kernel
theorem dX9_set_24 : decode cX9_set 24 = .ok (.ifCond .lt 8, 3) := by decide +kernel
theorem dX9_set_27 : decode cX9_set 27 = .ok (.iload_n 2, 1) := by decide +kernel
theorem dX9_set_28 : decode cX9_set 28 = .ok (.iload_n 3, 1) := by decide +kernel
theorem dX9_set_29 : decode cX9_set 29 = .ok (.if_icmp .le 13, 3) := by decide +kernel
theorem dX9_set_32 : decode cX9_set 32 = .ok (.new 80, 3) := by decide +kernel
theorem dX9_set_35 : decode cX9_set 35 = .ok (.dup, 1) := by decide +kernel
theorem dX9_set_36 : decode cX9_set 36 = .ok (.ldc 188, 2) := by decide +kernel
theorem dX9_set_38 : decode cX9_set 38 = .ok (.invokespecial 84, 3) := by decide +kernel
theorem dX9_set_41 : decode cX9_set 41 = .ok (.athrow, 1) := by decide +kernel
theorem dX9_set_42 : decode cX9_set 42 = .ok (.aload_n 0, 1) := by decide +kernel
theorem dX9_set_43 : decode cX9_set 43 = .ok (.getfield 44, 3) := by decide +kernel
theorem dX9_set_46 : decode cX9_set 46 = .ok (.iload_n 1, 1) := by decide +kernel
theorem dX9_set_47 : decode cX9_set 47 = .ok (.invokevirtual 190, 3) := by decide +kernel
theorem dX9_set_50 : decode cX9_set 50 = .ok (.istore 4, 2) := by decide +kernel
theorem dX9_set_52 : decode cX9_set 52 = .ok (.aload_n 0, 1) := by decide +kernel
theorem dX9_set_53 : decode cX9_set 53 = .ok (.getfield 44, 3) := by decide +kernel
theorem dX9_set_56 : decode cX9_set 56 = .ok (.iload_n 1, 1) := by decide +kernel
theorem dX9_set_57 : decode cX9_set 57 = .ok (.iload_n 2, 1) := by decide +kernel
theorem dX9_set_58 : decode cX9_set 58 = .ok (.invokevirtual 193, 3) := by decide +kernel
theorem dX9_set_61 : decode cX9_set 61 = .ok (.iload 4, 2) := by decide +kernel
theorem dX9_set_63 : decode cX9_set 63 = .ok (.ireturn, 1) := by decide +kernel
theorem dX9_mix_0 : decode cX9_mix 0 = .ok (.aload_n 0, 1) := by decide +kernel
theorem dX9_mix_1 : decode cX9_mix 1 = .ok (.getfield 51, 3) := by decide +kernel
theorem dX9_mix_4 : decode cX9_mix 4 = .ok (.getfield 197, 3) := by decide +kernel
theorem dX9_mix_7 : decode cX9_mix 7 = .ok (.istore_n 2, 1) := by decide +kernel
theorem dX9_mix_8 : decode cX9_mix 8 = .ok (.aload_n 0, 1) := by decide +kernel
theorem dX9_mix_9 : decode cX9_mix 9 = .ok (.getfield 51, 3) := by decide +kernel
theorem dX9_mix_12 : decode cX9_mix 12 = .ok (.iload_n 1, 1) := by decide +kernel
theorem dX9_mix_13 : decode cX9_mix 13 = .ok (.putfield 197, 3) := by decide +kernel
theorem dX9_mix_16 : decode cX9_mix 16 = .ok (.iload_n 2, 1) := by decide +kernel
theorem dX9_mix_17 : decode cX9_mix 17 = .ok (.ireturn, 1) := by decide +kernel
theorem dX9_goOn_0 : decode cX9_goOn 0 = .ok (.iload_n 1, 1) := by decide +kernel
theorem dX9_goOn_1 : decode cX9_goOn 1 = .ok (.iconst 1, 1) := by decide +kernel
theorem dX9_goOn_2 : decode cX9_goOn 2 = .ok (.if_icmp .lt 9, 3) := by decide +kernel
theorem dX9_goOn_5 : decode cX9_goOn 5 = .ok (.iload_n 1, 1) := by decide +kernel
theorem dX9_goOn_6 : decode cX9_goOn 6 = .ok (.bipush 20, 2) := by decide +kernel
theorem dX9_goOn_8 : decode cX9_goOn 8 = .ok (.if_icmp .le 13, 3) := by decide +kernel
theorem dX9_goOn_11 : decode cX9_goOn 11 = .ok (.new 80, 3) := by decide +kernel
theorem dX9_goOn_14 : decode cX9_goOn 14 = .ok (.dup, 1) := by decide +kernel
theorem dX9_goOn_15 : decode cX9_goOn 15 = .ok (.ldc 201, 2) := by decide +kernel
theorem dX9_goOn_17 : decode cX9_goOn 17 = .ok (.invokespecial 84, 3) := by decide +kernel
theorem dX9_goOn_20 : decode cX9_goOn 20 = .ok (.athrow, 1) := by decide +kernel
theorem dX9_goOn_21 : decode cX9_goOn 21 = .ok (.aload_n 0, 1) := by decide +kernel
theorem dX9_goOn_22 : decode cX9_goOn 22 = .ok (.getfield 10, 3) := by decide +kernel
theorem dX9_goOn_25 : decode cX9_goOn 25 = .ok (.getfield 203, 3) := by decide +kernel
theorem dX9_goOn_28 : decode cX9_goOn 28 = .ok (.istore_n 2, 1) := by decide +kernel
theorem dX9_goOn_29 : decode cX9_goOn 29 = .ok (.iconst 0, 1) := by decide +kernel
theorem dX9_goOn_30 : decode cX9_goOn 30 = .ok (.istore_n 3, 1) := by decide +kernel
theorem dX9_goOn_31 : decode cX9_goOn 31 = .ok (.iload_n 3, 1) := by decide +kernel
theorem dX9_goOn_32 : decode cX9_goOn 32 = .ok (.iload_n 1, 1) := by decide +kernel
theorem dX9_goOn_33 : decode cX9_goOn 33 = .ok (.if_icmp .ge 13, 3) := by decide +kernel
theorem dX9_goOn_36 : decode cX9_goOn 36 = .ok (.aload_n 0, 1) := by decide +kernel
theorem dX9_goOn_37 : decode cX9_goOn 37 = .ok (.invokevirtual 206, 3) := by decide +kernel
theorem dX9_goOn_40 : decode cX9_goOn 40 = .ok (.iinc 3 1, 3) := by decide +kernel
theorem dX9_goOn_43 : decode cX9_goOn 43 = .ok (.goto (-12), 3) := by decide +kernel
theorem dX9_goOn_46 : decode cX9_goOn 46 = .ok (.aload_n 0, 1) := by decide +kernel
theorem dX9_goOn_47 : decode cX9_goOn 47 = .ok (.getfield 10, 3) := by decide +kernel
theorem dX9_goOn_50 : decode cX9_goOn 50 = .ok (.getfield 203, 3) := by decide +kernel
theorem dX9_goOn_53 : decode cX9_goOn 53 = .ok (.iload_n 2, 1) := by decide +kernel
theorem dX9_goOn_54 : decode cX9_goOn 54 = .ok (.isub, 1) := by decide +kernel
theorem dX9_goOn_55 : decode cX9_goOn 55 = .ok (.ireturn, 1) := by decide +kernel
theorem dX9_week_0 : decode cX9_week 0 = .ok (.aload_n 0, 1) := by decide +kernel
theorem dX9_week_1 : decode cX9_week 1 = .ok (.getfield 72, 3) := by decide +kernel
theorem dX9_week_4 : decode cX9_week 4 = .ok (.getfield 209, 3) := by decide +kernel
theorem dX9_week_7 : decode cX9_week 7 = .ok (.ireturn, 1) := by decide +kernel
theorem dX9_wentTo_0 : decode cX9_wentTo 0 = .ok (.iload_n 1, 1) := by decide +kernel
theorem dX9_wentTo_1 : decode cX9_wentTo 1 = .ok (.invokestatic 76, 3) := by decide +kernel
theorem dX9_wentTo_4 : decode cX9_wentTo 4 = .ok (.aload_n 0, 1) := by decide +kernel
theorem dX9_wentTo_5 : decode cX9_wentTo 5 = .ok (.iload_n 1, 1) := by decide +kernel
theorem dX9_wentTo_6 : decode cX9_wentTo 6 = .ok (.invokevirtual 212, 3) := by decide +kernel
theorem dX9_wentTo_9 : decode cX9_wentTo 9 = .ok (.aload_n 0, 1) := by decide +kernel
theorem dX9_wentTo_10 : decode cX9_wentTo 10 = .ok (.getfield 72, 3) := by decide +kernel
theorem dX9_wentTo_13 : decode cX9_wentTo 13 = .ok (.iload_n 1, 1) := by decide +kernel
theorem dX9_wentTo_14 : decode cX9_wentTo 14 = .ok (.invokevirtual 215, 3) := by decide +kernel
theorem dX9_wentTo_17 : decode cX9_wentTo 17 = .ok (.ireturn, 1) := by decide +kernel
theorem dX9_dugIn_0 : decode cX9_dugIn 0 = .ok (.iload_n 1, 1) := by decide +kernel
theorem dX9_dugIn_1 : decode cX9_dugIn 1 = .ok (.invokestatic 76, 3) := by decide +kernel
theorem dX9_dugIn_4 : decode cX9_dugIn 4 = .ok (.aload_n 0, 1) := by decide +kernel
theorem dX9_dugIn_5 : decode cX9_dugIn 5 = .ok (.iload_n 1, 1) := by decide +kernel
theorem dX9_dugIn_6 : decode cX9_dugIn 6 = .ok (.invokevirtual 212, 3) := by decide +kernel
theorem dX9_dugIn_9 : decode cX9_dugIn 9 = .ok (.aload_n 0, 1) := by decide +kernel
theorem dX9_dugIn_10 : decode cX9_dugIn 10 = .ok (.getfield 10, 3) := by decide +kernel
theorem dX9_dugIn_13 : decode cX9_dugIn 13 = .ok (.iload_n 1, 1) := by decide +kernel
theorem dX9_dugIn_14 : decode cX9_dugIn 14 = .ok (.invokevirtual 219, 3) := by decide +kernel
theorem dX9_dugIn_17 : decode cX9_dugIn 17 = .ok (.ireturn, 1) := by decide +kernel
theorem dX9_stock_0 : decode cX9_stock 0 = .ok (.aload_n 0, 1) := by decide +kernel
theorem dX9_stock_1 : decode cX9_stock 1 = .ok (.getfield 51, 3) := by decide +kernel
theorem dX9_stock_4 : decode cX9_stock 4 = .ok (.invokevirtual 222, 3) := by decide +kernel
theorem dX9_stock_7 : decode cX9_stock 7 = .ok (.ireturn, 1) := by decide +kernel
theorem dX9_stockGrades_0 : decode cX9_stockGrades 0 = .ok (.aload_n 0, 1) := by decide +kernel
theorem dX9_stockGrades_1 : decode cX9_stockGrades 1 = .ok (.getfield 51, 3) := by decide +kernel
theorem dX9_stockGrades_4 : decode cX9_stockGrades 4 = .ok (.invokevirtual 225, 3) := by decide +kernel
theorem dX9_stockGrades_7 : decode cX9_stockGrades 7 = .ok (.ireturn, 1) := by decide +kernel
theorem dX9_water_0 : decode cX9_water 0 = .ok (.aload_n 0, 1) := by decide +kernel
theorem dX9_water_1 : decode cX9_water 1 = .ok (.getfield 65, 3) := by decide +kernel
theorem dX9_water_4 : decode cX9_water 4 = .ok (.getfield 228, 3) := by decide +kernel
theorem dX9_water_7 : decode cX9_water 7 = .ok (.ireturn, 1) := by decide +kernel
theorem dX9_recovery_0 : decode cX9_recovery 0 = .ok (.aload_n 0, 1) := by decide +kernel
theorem dX9_recovery_1 : decode cX9_recovery 1 = .ok (.getfield 58, 3) := by decide +kernel
theorem dX9_recovery_4 : decode cX9_recovery 4 = .ok (.getfield 231, 3) := by decide +kernel
theorem dX9_recovery_7 : decode cX9_recovery 7 = .ok (.ifCond .ne 13, 3) := by decide +kernel
theorem dX9_recovery_10 : decode cX9_recovery 10 = .ok (.new 234, 3) := by decide +kernel
theorem dX9_recovery_13 : decode cX9_recovery 13 = .ok (.dup, 1) := by decide +kernel
theorem dX9_recovery_14 : decode cX9_recovery 14 = .ok (.ldc 236, 2) := by decide +kernel
theorem dX9_recovery_16 : decode cX9_recovery 16 = .ok (.invokespecial 238, 3) := by decide +kernel
theorem dX9_recovery_19 : decode cX9_recovery 19 = .ok (.athrow, 1) := by decide +kernel
theorem dX9_recovery_20 : decode cX9_recovery 20 = .ok (.aload_n 0, 1) := by decide +kernel
theorem dX9_recovery_21 : decode cX9_recovery 21 = .ok (.getfield 58, 3) := by decide +kernel
theorem dX9_recovery_24 : decode cX9_recovery 24 = .ok (.getfield 239, 3) := by decide +kernel
theorem dX9_recovery_27 : decode cX9_recovery 27 = .ok (.ireturn, 1) := by decide +kernel
theorem dX9_metal_0 : decode cX9_metal 0 = .ok (.aload_n 0, 1) := by decide +kernel
theorem dX9_metal_1 : decode cX9_metal 1 = .ok (.getfield 58, 3) := by decide +kernel
theorem dX9_metal_4 : decode cX9_metal 4 = .ok (.getfield 242, 3) := by decide +kernel
theorem dX9_metal_7 : decode cX9_metal 7 = .ok (.lreturn, 1) := by decide +kernel
theorem dX9_money_0 : decode cX9_money 0 = .ok (.aload_n 0, 1) := by decide +kernel
theorem dX9_money_1 : decode cX9_money 1 = .ok (.getfield 72, 3) := by decide +kernel
theorem dX9_money_4 : decode cX9_money 4 = .ok (.getfield 245, 3) := by decide +kernel
theorem dX9_money_7 : decode cX9_money 7 = .ok (.lreturn, 1) := by decide +kernel
theorem dX9_tons_0 : decode cX9_tons 0 = .ok (.iload_n 1, 1) := by decide +kernel
theorem dX9_tons_1 : decode cX9_tons 1 = .ok (.bipush 112, 2) := by decide +kernel
theorem dX9_tons_3 : decode cX9_tons 3 = .ok (.if_icmp .ne 14, 3) := by decide +kernel
theorem dX9_tons_6 : decode cX9_tons 6 = .ok (.bipush 10, 2) := by decide +kernel
theorem dX9_tons_8 : decode cX9_tons 8 = .ok (.aload_n 0, 1) := by decide +kernel
theorem dX9_tons_9 : decode cX9_tons 9 = .ok (.getfield 58, 3) := by decide +kernel
theorem dX9_tons_12 : decode cX9_tons 12 = .ok (.getfield 248, 3) := by decide +kernel
theorem dX9_tons_15 : decode cX9_tons 15 = .ok (.imul, 1) := by decide +kernel
theorem dX9_tons_16 : decode cX9_tons 16 = .ok (.ireturn, 1) := by decide +kernel
theorem dX9_tons_17 : decode cX9_tons 17 = .ok (.iload_n 1, 1) := by decide +kernel
theorem dX9_tons_18 : decode cX9_tons 18 = .ok (.bipush 115, 2) := by decide +kernel
theorem dX9_tons_20 : decode cX9_tons 20 = .ok (.if_icmp .ne 14, 3) := by decide +kernel
theorem dX9_tons_23 : decode cX9_tons 23 = .ok (.bipush 10, 2) := by decide +kernel
theorem dX9_tons_25 : decode cX9_tons 25 = .ok (.aload_n 0, 1) := by decide +kernel
theorem dX9_tons_26 : decode cX9_tons 26 = .ok (.getfield 51, 3) := by decide +kernel
theorem dX9_tons_29 : decode cX9_tons 29 = .ok (.invokevirtual 222, 3) := by decide +kernel
theorem dX9_tons_32 : decode cX9_tons 32 = .ok (.imul, 1) := by decide +kernel
theorem dX9_tons_33 : decode cX9_tons 33 = .ok (.ireturn, 1) := by decide +kernel
theorem dX9_tons_34 : decode cX9_tons 34 = .ok (.iload_n 1, 1) := by decide +kernel
theorem dX9_tons_35 : decode cX9_tons 35 = .ok (.bipush 100, 2) := by decide +kernel
theorem dX9_tons_37 : decode cX9_tons 37 = .ok (.if_icmp .ne 14, 3) := by decide +kernel
theorem dX9_tons_40 : decode cX9_tons 40 = .ok (.bipush 10, 2) := by decide +kernel
theorem dX9_tons_42 : decode cX9_tons 42 = .ok (.aload_n 0, 1) := by decide +kernel
theorem dX9_tons_43 : decode cX9_tons 43 = .ok (.getfield 72, 3) := by decide +kernel
theorem dX9_tons_46 : decode cX9_tons 46 = .ok (.getfield 251, 3) := by decide +kernel
theorem dX9_tons_49 : decode cX9_tons 49 = .ok (.imul, 1) := by decide +kernel
theorem dX9_tons_50 : decode cX9_tons 50 = .ok (.ireturn, 1) := by decide +kernel
theorem dX9_tons_51 : decode cX9_tons 51 = .ok (.new 80, 3) := by decide +kernel
theorem dX9_tons_54 : decode cX9_tons 54 = .ok (.dup, 1) := by decide +kernel
theorem dX9_tons_55 : decode cX9_tons 55 = .ok (.ldc 186, 2) := by decide +kernel
theorem dX9_tons_57 : decode cX9_tons 57 = .ok (.invokespecial 84, 3) := by decide +kernel
theorem dX9_tons_60 : decode cX9_tons 60 = .ok (.athrow, 1) := by decide +kernel
theorem dX9_factor_0 : decode cX9_factor 0 = .ok (.aload_n 0, 1) := by decide +kernel
theorem dX9_factor_1 : decode cX9_factor 1 = .ok (.getfield 72, 3) := by decide +kernel
theorem dX9_factor_4 : decode cX9_factor 4 = .ok (.getfield 254, 3) := by decide +kernel
theorem dX9_factor_7 : decode cX9_factor 7 = .ok (.ifCond .gt 14, 3) := by decide +kernel
theorem dX9_factor_10 : decode cX9_factor 10 = .ok (.new 257, 3) := by decide +kernel
theorem dX9_factor_13 : decode cX9_factor 13 = .ok (.dup, 1) := by decide +kernel
theorem dX9_factor_14 : decode cX9_factor 14 = .ok (.ldc_w 259, 3) := by decide +kernel
theorem dX9_factor_17 : decode cX9_factor 17 = .ok (.invokespecial 261, 3) := by decide +kernel
theorem dX9_factor_20 : decode cX9_factor 20 = .ok (.athrow, 1) := by decide +kernel
theorem dX9_factor_21 : decode cX9_factor 21 = .ok (.bipush 100, 2) := by decide +kernel
theorem dX9_factor_23 : decode cX9_factor 23 = .ok (.aload_n 0, 1) := by decide +kernel
theorem dX9_factor_24 : decode cX9_factor 24 = .ok (.getfield 72, 3) := by decide +kernel
theorem dX9_factor_27 : decode cX9_factor 27 = .ok (.getfield 262, 3) := by decide +kernel
theorem dX9_factor_30 : decode cX9_factor 30 = .ok (.imul, 1) := by decide +kernel
theorem dX9_factor_31 : decode cX9_factor 31 = .ok (.aload_n 0, 1) := by decide +kernel
theorem dX9_factor_32 : decode cX9_factor 32 = .ok (.getfield 72, 3) := by decide +kernel
theorem dX9_factor_35 : decode cX9_factor 35 = .ok (.getfield 254, 3) := by decide +kernel
theorem dX9_factor_38 : decode cX9_factor 38 = .ok (.idiv, 1) := by decide +kernel
theorem dX9_factor_39 : decode cX9_factor 39 = .ok (.ireturn, 1) := by decide +kernel
theorem dX9_isBalanced_0 : decode cX9_isBalanced 0 = .ok (.bipush 10, 2) := by decide +kernel
theorem dX9_isBalanced_2 : decode cX9_isBalanced 2 = .ok (.aload_n 0, 1) := by decide +kernel
theorem dX9_isBalanced_3 : decode cX9_isBalanced 3 = .ok (.getfield 58, 3) := by decide +kernel
theorem dX9_isBalanced_6 : decode cX9_isBalanced 6 = .ok (.getfield 248, 3) := by decide +kernel
theorem dX9_isBalanced_9 : decode cX9_isBalanced 9 = .ok (.aload_n 0, 1) := by decide +kernel
theorem dX9_isBalanced_10 : decode cX9_isBalanced 10 = .ok (.getfield 51, 3) := by decide +kernel
theorem dX9_isBalanced_13 : decode cX9_isBalanced 13 = .ok (.invokevirtual 222, 3) := by decide +kernel
theorem dX9_isBalanced_16 : decode cX9_isBalanced 16 = .ok (.iadd, 1) := by decide +kernel
theorem dX9_isBalanced_17 : decode cX9_isBalanced 17 = .ok (.aload_n 0, 1) := by decide +kernel
theorem dX9_isBalanced_18 : decode cX9_isBalanced 18 = .ok (.getfield 72, 3) := by decide +kernel
theorem dX9_isBalanced_21 : decode cX9_isBalanced 21 = .ok (.getfield 251, 3) := by decide +kernel
theorem dX9_isBalanced_24 : decode cX9_isBalanced 24 = .ok (.iadd, 1) := by decide +kernel
theorem dX9_isBalanced_25 : decode cX9_isBalanced 25 = .ok (.imul, 1) := by decide +kernel
theorem dX9_isBalanced_26 : decode cX9_isBalanced 26 = .ok (.istore_n 1, 1) := by decide +kernel
theorem dX9_isBalanced_27 : decode cX9_isBalanced 27 = .ok (.iload_n 1, 1) := by decide +kernel
theorem dX9_isBalanced_28 : decode cX9_isBalanced 28 = .ok (.bipush 10, 2) := by decide +kernel
theorem dX9_isBalanced_30 : decode cX9_isBalanced 30 = .ok (.aload_n 0, 1) := by decide +kernel
theorem dX9_isBalanced_31 : decode cX9_isBalanced 31 = .ok (.getfield 10, 3) := by decide +kernel
theorem dX9_isBalanced_34 : decode cX9_isBalanced 34 = .ok (.getfield 203, 3) := by decide +kernel
theorem dX9_isBalanced_37 : decode cX9_isBalanced 37 = .ok (.imul, 1) := by decide +kernel
theorem dX9_isBalanced_38 : decode cX9_isBalanced 38 = .ok (.if_icmp .ne 17, 3) := by decide +kernel
theorem dX9_isBalanced_41 : decode cX9_isBalanced 41 = .ok (.aload_n 0, 1) := by decide +kernel
theorem dX9_isBalanced_42 : decode cX9_isBalanced 42 = .ok (.getfield 10, 3) := by decide +kernel
theorem dX9_isBalanced_45 : decode cX9_isBalanced 45 = .ok (.invokevirtual 265, 3) := by decide +kernel
theorem dX9_isBalanced_48 : decode cX9_isBalanced 48 = .ok (.ifCond .eq 7, 3) := by decide +kernel
theorem dX9_isBalanced_51 : decode cX9_isBalanced 51 = .ok (.iconst 1, 1) := by decide +kernel
theorem dX9_isBalanced_52 : decode cX9_isBalanced 52 = .ok (.goto 4, 3) := by decide +kernel
theorem dX9_isBalanced_55 : decode cX9_isBalanced 55 = .ok (.iconst 0, 1) := by decide +kernel
theorem dX9_isBalanced_56 : decode cX9_isBalanced 56 = .ok (.ireturn, 1) := by decide +kernel
theorem dX9_dugShare_0 : decode cX9_dugShare 0 = .ok (.aload_n 0, 1) := by decide +kernel
theorem dX9_dugShare_1 : decode cX9_dugShare 1 = .ok (.getfield 10, 3) := by decide +kernel
theorem dX9_dugShare_4 : decode cX9_dugShare 4 = .ok (.getfield 203, 3) := by decide +kernel
theorem dX9_dugShare_7 : decode cX9_dugShare 7 = .ok (.i2f, 1) := by decide +kernel
theorem dX9_dugShare_8 : decode cX9_dugShare 8 = .ok (.ldc_w 268, 3) := by decide +kernel
theorem dX9_dugShare_11 : decode cX9_dugShare 11 = .ok (.fdiv, 1) := by decide +kernel
theorem dX9_dugShare_12 : decode cX9_dugShare 12 = .ok (.freturn, 1) := by decide +kernel
theorem dX9_meanFed_0 : decode cX9_meanFed 0 = .ok (.aload_n 0, 1) := by decide +kernel
theorem dX9_meanFed_1 : decode cX9_meanFed 1 = .ok (.getfield 58, 3) := by decide +kernel
theorem dX9_meanFed_4 : decode cX9_meanFed 4 = .ok (.getfield 248, 3) := by decide +kernel
theorem dX9_meanFed_7 : decode cX9_meanFed 7 = .ok (.ifCond .gt 13, 3) := by decide +kernel
theorem dX9_meanFed_10 : decode cX9_meanFed 10 = .ok (.new 257, 3) := by decide +kernel
theorem dX9_meanFed_13 : decode cX9_meanFed 13 = .ok (.dup, 1) := by decide +kernel
theorem dX9_meanFed_14 : decode cX9_meanFed 14 = .ok (.ldc 236, 2) := by decide +kernel
theorem dX9_meanFed_16 : decode cX9_meanFed 16 = .ok (.invokespecial 261, 3) := by decide +kernel
theorem dX9_meanFed_19 : decode cX9_meanFed 19 = .ok (.athrow, 1) := by decide +kernel
theorem dX9_meanFed_20 : decode cX9_meanFed 20 = .ok (.aload_n 0, 1) := by decide +kernel
theorem dX9_meanFed_21 : decode cX9_meanFed 21 = .ok (.getfield 58, 3) := by decide +kernel
theorem dX9_meanFed_24 : decode cX9_meanFed 24 = .ok (.getfield 269, 3) := by decide +kernel
theorem dX9_meanFed_27 : decode cX9_meanFed 27 = .ok (.i2d, 1) := by decide +kernel
theorem dX9_meanFed_28 : decode cX9_meanFed 28 = .ok (.aload_n 0, 1) := by decide +kernel
theorem dX9_meanFed_29 : decode cX9_meanFed 29 = .ok (.getfield 58, 3) := by decide +kernel
theorem dX9_meanFed_32 : decode cX9_meanFed 32 = .ok (.getfield 248, 3) := by decide +kernel
theorem dX9_meanFed_35 : decode cX9_meanFed 35 = .ok (.i2d, 1) := by decide +kernel
theorem dX9_meanFed_36 : decode cX9_meanFed 36 = .ok (.ddiv, 1) := by decide +kernel
theorem dX9_meanFed_37 : decode cX9_meanFed 37 = .ok (.dreturn, 1) := by decide +kernel
theorem dX9_passWeek_0 : decode cX9_passWeek 0 = .ok (.aload_n 0, 1) := by decide +kernel
theorem dX9_passWeek_1 : decode cX9_passWeek 1 = .ok (.getfield 37, 3) := by decide +kernel
theorem dX9_passWeek_4 : decode cX9_passWeek 4 = .ok (.invokevirtual 176, 3) := by decide +kernel
theorem dX9_passWeek_7 : decode cX9_passWeek 7 = .ok (.aload_n 0, 1) := by decide +kernel
theorem dX9_passWeek_8 : decode cX9_passWeek 8 = .ok (.getfield 58, 3) := by decide +kernel
theorem dX9_passWeek_11 : decode cX9_passWeek 11 = .ok (.invokevirtual 272, 3) := by decide +kernel
theorem dX9_passWeek_14 : decode cX9_passWeek 14 = .ok (.aload_n 0, 1) := by decide +kernel
theorem dX9_passWeek_15 : decode cX9_passWeek 15 = .ok (.invokevirtual 275, 3) := by decide +kernel
theorem dX9_passWeek_18 : decode cX9_passWeek 18 = .ok (.istore_n 1, 1) := by decide +kernel
theorem dX9_passWeek_19 : decode cX9_passWeek 19 = .ok (.iconst 0, 1) := by decide +kernel
theorem dX9_passWeek_20 : decode cX9_passWeek 20 = .ok (.istore_n 2, 1) := by decide +kernel
theorem dX9_passWeek_21 : decode cX9_passWeek 21 = .ok (.iload_n 2, 1) := by decide +kernel
theorem dX9_passWeek_22 : decode cX9_passWeek 22 = .ok (.aload_n 0, 1) := by decide +kernel
theorem dX9_passWeek_23 : decode cX9_passWeek 23 = .ok (.getfield 44, 3) := by decide +kernel
theorem dX9_passWeek_26 : decode cX9_passWeek 26 = .ok (.bipush 115, 2) := by decide +kernel
theorem dX9_passWeek_28 : decode cX9_passWeek 28 = .ok (.invokevirtual 190, 3) := by decide +kernel
theorem dX9_passWeek_31 : decode cX9_passWeek 31 = .ok (.if_icmp .ge 27, 3) := by decide +kernel
theorem dX9_passWeek_34 : decode cX9_passWeek 34 = .ok (.aload_n 0, 1) := by decide +kernel
theorem dX9_passWeek_35 : decode cX9_passWeek 35 = .ok (.iload_n 1, 1) := by decide +kernel
theorem dX9_passWeek_36 : decode cX9_passWeek 36 = .ok (.invokevirtual 278, 3) := by decide +kernel
theorem dX9_passWeek_39 : decode cX9_passWeek 39 = .ok (.istore_n 3, 1) := by decide +kernel
theorem dX9_passWeek_40 : decode cX9_passWeek 40 = .ok (.iload_n 3, 1) := by decide +kernel
theorem dX9_passWeek_41 : decode cX9_passWeek 41 = .ok (.ifCond .ge 6, 3) := by decide +kernel
theorem dX9_passWeek_44 : decode cX9_passWeek 44 = .ok (.goto 14, 3) := by decide +kernel
theorem dX9_passWeek_47 : decode cX9_passWeek 47 = .ok (.aload_n 0, 1) := by decide +kernel
theorem dX9_passWeek_48 : decode cX9_passWeek 48 = .ok (.iload_n 3, 1) := by decide +kernel
theorem dX9_passWeek_49 : decode cX9_passWeek 49 = .ok (.invokevirtual 281, 3) := by decide +kernel
theorem dX9_passWeek_52 : decode cX9_passWeek 52 = .ok (.iinc 2 1, 3) := by decide +kernel
theorem dX9_passWeek_55 : decode cX9_passWeek 55 = .ok (.goto (-34), 3) := by decide +kernel
theorem dX9_passWeek_58 : decode cX9_passWeek 58 = .ok (.aload_n 0, 1) := by decide +kernel
theorem dX9_passWeek_59 : decode cX9_passWeek 59 = .ok (.invokevirtual 284, 3) := by decide +kernel
theorem dX9_passWeek_62 : decode cX9_passWeek 62 = .ok (.aload_n 0, 1) := by decide +kernel
theorem dX9_passWeek_63 : decode cX9_passWeek 63 = .ok (.getfield 72, 3) := by decide +kernel
theorem dX9_passWeek_66 : decode cX9_passWeek 66 = .ok (.dup, 1) := by decide +kernel
theorem dX9_passWeek_67 : decode cX9_passWeek 67 = .ok (.getfield 245, 3) := by decide +kernel
theorem dX9_passWeek_70 : decode cX9_passWeek 70 = .ok (.aload_n 0, 1) := by decide +kernel
theorem dX9_passWeek_71 : decode cX9_passWeek 71 = .ok (.getfield 58, 3) := by decide +kernel
theorem dX9_passWeek_74 : decode cX9_passWeek 74 = .ok (.invokevirtual 287, 3) := by decide +kernel
theorem dX9_passWeek_77 : decode cX9_passWeek 77 = .ok (.aload_n 0, 1) := by decide +kernel
theorem dX9_passWeek_78 : decode cX9_passWeek 78 = .ok (.getfield 44, 3) := by decide +kernel
theorem dX9_passWeek_81 : decode cX9_passWeek 81 = .ok (.bipush 109, 2) := by decide +kernel
theorem dX9_passWeek_83 : decode cX9_passWeek 83 = .ok (.invokevirtual 190, 3) := by decide +kernel
theorem dX9_passWeek_86 : decode cX9_passWeek 86 = .ok (.i2l, 1) := by decide +kernel
theorem dX9_passWeek_87 : decode cX9_passWeek 87 = .ok (.lmul, 1) := by decide +kernel
theorem dX9_passWeek_88 : decode cX9_passWeek 88 = .ok (.ldc2_w 291, 3) := by decide +kernel
theorem dX9_passWeek_91 : decode cX9_passWeek 91 = .ok (.ldiv, 1) := by decide +kernel
theorem dX9_passWeek_92 : decode cX9_passWeek 92 = .ok (.ldc2_w 293, 3) := by decide +kernel
theorem dX9_passWeek_95 : decode cX9_passWeek 95 = .ok (.aload_n 0, 1) := by decide +kernel
theorem dX9_passWeek_96 : decode cX9_passWeek 96 = .ok (.getfield 58, 3) := by decide +kernel
theorem dX9_passWeek_99 : decode cX9_passWeek 99 = .ok (.getfield 295, 3) := by decide +kernel
theorem dX9_passWeek_102 : decode cX9_passWeek 102 = .ok (.i2l, 1) := by decide +kernel
theorem dX9_passWeek_103 : decode cX9_passWeek 103 = .ok (.lmul, 1) := by decide +kernel
theorem dX9_passWeek_104 : decode cX9_passWeek 104 = .ok (.lsub, 1) := by decide +kernel
theorem dX9_passWeek_105 : decode cX9_passWeek 105 = .ok (.ladd, 1) := by decide +kernel
theorem dX9_passWeek_106 : decode cX9_passWeek 106 = .ok (.putfield 245, 3) := by decide +kernel
theorem dX9_passWeek_109 : decode cX9_passWeek 109 = .ok (.aload_n 0, 1) := by decide +kernel
theorem dX9_passWeek_110 : decode cX9_passWeek 110 = .ok (.getfield 65, 3) := by decide +kernel
theorem dX9_passWeek_113 : decode cX9_passWeek 113 = .ok (.aload_n 0, 1) := by decide +kernel
theorem dX9_passWeek_114 : decode cX9_passWeek 114 = .ok (.getfield 44, 3) := by decide +kernel
theorem dX9_passWeek_117 : decode cX9_passWeek 117 = .ok (.bipush 114, 2) := by decide +kernel
theorem dX9_passWeek_119 : decode cX9_passWeek 119 = .ok (.invokevirtual 190, 3) := by decide +kernel
theorem dX9_passWeek_122 : decode cX9_passWeek 122 = .ok (.aload_n 0, 1) := by decide +kernel
theorem dX9_passWeek_123 : decode cX9_passWeek 123 = .ok (.getfield 44, 3) := by decide +kernel
theorem dX9_passWeek_126 : decode cX9_passWeek 126 = .ok (.bipush 119, 2) := by decide +kernel
theorem dX9_passWeek_128 : decode cX9_passWeek 128 = .ok (.invokevirtual 190, 3) := by decide +kernel
theorem dX9_passWeek_131 : decode cX9_passWeek 131 = .ok (.invokevirtual 298, 3) := by decide +kernel
theorem dX9_passWeek_134 : decode cX9_passWeek 134 = .ok (.istore_n 2, 1) := by decide +kernel
theorem dX9_passWeek_135 : decode cX9_passWeek 135 = .ok (.aload_n 0, 1) := by decide +kernel
theorem dX9_passWeek_136 : decode cX9_passWeek 136 = .ok (.getfield 72, 3) := by decide +kernel
theorem dX9_passWeek_139 : decode cX9_passWeek 139 = .ok (.dup, 1) := by decide +kernel
theorem dX9_passWeek_140 : decode cX9_passWeek 140 = .ok (.getfield 245, 3) := by decide +kernel
theorem dX9_passWeek_143 : decode cX9_passWeek 143 = .ok (.iconst 5, 1) := by decide +kernel
theorem dX9_passWeek_144 : decode cX9_passWeek 144 = .ok (.iload_n 2, 1) := by decide +kernel
theorem dX9_passWeek_145 : decode cX9_passWeek 145 = .ok (.bipush 9, 2) := by decide +kernel
theorem dX9_passWeek_147 : decode cX9_passWeek 147 = .ok (.iadd, 1) := by decide +kernel
theorem dX9_passWeek_148 : decode cX9_passWeek 148 = .ok (.bipush 10, 2) := by decide +kernel
theorem dX9_passWeek_150 : decode cX9_passWeek 150 = .ok (.idiv, 1) := by decide +kernel
theorem dX9_passWeek_151 : decode cX9_passWeek 151 = .ok (.imul, 1) := by decide +kernel
theorem dX9_passWeek_152 : decode cX9_passWeek 152 = .ok (.i2l, 1) := by decide +kernel
theorem dX9_passWeek_153 : decode cX9_passWeek 153 = .ok (.lsub, 1) := by decide +kernel
theorem dX9_passWeek_154 : decode cX9_passWeek 154 = .ok (.putfield 245, 3) := by decide +kernel
theorem dX9_passWeek_157 : decode cX9_passWeek 157 = .ok (.aload_n 0, 1) := by decide +kernel
theorem dX9_passWeek_158 : decode cX9_passWeek 158 = .ok (.getfield 72, 3) := by decide +kernel
theorem dX9_passWeek_161 : decode cX9_passWeek 161 = .ok (.dup, 1) := by decide +kernel
theorem dX9_passWeek_162 : decode cX9_passWeek 162 = .ok (.getfield 209, 3) := by decide +kernel
theorem dX9_passWeek_165 : decode cX9_passWeek 165 = .ok (.iconst 1, 1) := by decide +kernel
theorem dX9_passWeek_166 : decode cX9_passWeek 166 = .ok (.iadd, 1) := by decide +kernel
theorem dX9_passWeek_167 : decode cX9_passWeek 167 = .ok (.putfield 209, 3) := by decide +kernel
theorem dX9_passWeek_170 : decode cX9_passWeek 170 = .ok (.return_, 1) := by decide +kernel
theorem dX9_dryLevels_0 : decode cX9_dryLevels 0 = .ok (.aload_n 0, 1) := by decide +kernel
theorem dX9_dryLevels_1 : decode cX9_dryLevels 1 = .ok (.getfield 10, 3) := by decide +kernel
theorem dX9_dryLevels_4 : decode cX9_dryLevels 4 = .ok (.invokevirtual 301, 3) := by decide +kernel
theorem dX9_dryLevels_7 : decode cX9_dryLevels 7 = .ok (.istore_n 1, 1) := by decide +kernel
theorem dX9_dryLevels_8 : decode cX9_dryLevels 8 = .ok (.iload_n 1, 1) := by decide +kernel
theorem dX9_dryLevels_9 : decode cX9_dryLevels 9 = .ok (.ifCond .lt 15, 3) := by decide +kernel
theorem dX9_dryLevels_12 : decode cX9_dryLevels 12 = .ok (.aload_n 0, 1) := by decide +kernel
theorem dX9_dryLevels_13 : decode cX9_dryLevels 13 = .ok (.getfield 65, 3) := by decide +kernel
theorem dX9_dryLevels_16 : decode cX9_dryLevels 16 = .ok (.getfield 228, 3) := by decide +kernel
theorem dX9_dryLevels_19 : decode cX9_dryLevels 19 = .ok (.bipush 50, 2) := by decide +kernel
theorem dX9_dryLevels_21 : decode cX9_dryLevels 21 = .ok (.if_icmp .gt 6, 3) := by decide +kernel
theorem dX9_dryLevels_24 : decode cX9_dryLevels 24 = .ok (.bipush 6, 2) := by decide +kernel
theorem dX9_dryLevels_26 : decode cX9_dryLevels 26 = .ok (.ireturn, 1) := by decide +kernel
theorem dX9_dryLevels_27 : decode cX9_dryLevels 27 = .ok (.iload_n 1, 1) := by decide +kernel
theorem dX9_dryLevels_28 : decode cX9_dryLevels 28 = .ok (.iconst 1, 1) := by decide +kernel
theorem dX9_dryLevels_29 : decode cX9_dryLevels 29 = .ok (.invokestatic 304, 3) := by decide +kernel
theorem dX9_dryLevels_32 : decode cX9_dryLevels 32 = .ok (.ireturn, 1) := by decide +kernel
theorem dX9_nextBlock_0 : decode cX9_nextBlock 0 = .ok (.iconst (-1), 1) := by decide +kernel
theorem dX9_nextBlock_1 : decode cX9_nextBlock 1 = .ok (.istore_n 2, 1) := by decide +kernel
theorem dX9_nextBlock_2 : decode cX9_nextBlock 2 = .ok (.iconst 4, 1) := by decide +kernel
theorem dX9_nextBlock_3 : decode cX9_nextBlock 3 = .ok (.istore_n 3, 1) := by decide +kernel
theorem dX9_nextBlock_4 : decode cX9_nextBlock 4 = .ok (.iconst 0, 1) := by decide +kernel
theorem dX9_nextBlock_5 : decode cX9_nextBlock 5 = .ok (.istore 4, 2) := by decide +kernel
theorem dX9_nextBlock_7 : decode cX9_nextBlock 7 = .ok (.iload 4, 2) := by decide +kernel
theorem dX9_nextBlock_9 : decode cX9_nextBlock 9 = .ok (.iload_n 1, 1) := by decide +kernel
theorem dX9_nextBlock_10 : decode cX9_nextBlock 10 = .ok (.bipush 10, 2) := by decide +kernel
theorem dX9_nextBlock_12 : decode cX9_nextBlock 12 = .ok (.imul, 1) := by decide +kernel
theorem dX9_nextBlock_13 : decode cX9_nextBlock 13 = .ok (.if_icmp .ge 49, 3) := by decide +kernel
theorem dX9_nextBlock_16 : decode cX9_nextBlock 16 = .ok (.aload_n 0, 1) := by decide +kernel
theorem dX9_nextBlock_17 : decode cX9_nextBlock 17 = .ok (.getfield 37, 3) := by decide +kernel
theorem dX9_nextBlock_20 : decode cX9_nextBlock 20 = .ok (.iload 4, 2) := by decide +kernel
theorem dX9_nextBlock_22 : decode cX9_nextBlock 22 = .ok (.invokevirtual 179, 3) := by decide +kernel
theorem dX9_nextBlock_25 : decode cX9_nextBlock 25 = .ok (.istore 5, 2) := by decide +kernel
theorem dX9_nextBlock_27 : decode cX9_nextBlock 27 = .ok (.iload 5, 2) := by decide +kernel
theorem dX9_nextBlock_29 : decode cX9_nextBlock 29 = .ok (.ifCond .lt 27, 3) := by decide +kernel
theorem dX9_nextBlock_32 : decode cX9_nextBlock 32 = .ok (.iload 5, 2) := by decide +kernel
theorem dX9_nextBlock_34 : decode cX9_nextBlock 34 = .ok (.iload_n 3, 1) := by decide +kernel
theorem dX9_nextBlock_35 : decode cX9_nextBlock 35 = .ok (.if_icmp .ge 21, 3) := by decide +kernel
theorem dX9_nextBlock_38 : decode cX9_nextBlock 38 = .ok (.aload_n 0, 1) := by decide +kernel
theorem dX9_nextBlock_39 : decode cX9_nextBlock 39 = .ok (.getfield 10, 3) := by decide +kernel
theorem dX9_nextBlock_42 : decode cX9_nextBlock 42 = .ok (.iload 4, 2) := by decide +kernel
theorem dX9_nextBlock_44 : decode cX9_nextBlock 44 = .ok (.invokevirtual 135, 3) := by decide +kernel
theorem dX9_nextBlock_47 : decode cX9_nextBlock 47 = .ok (.ifCond .eq 9, 3) := by decide +kernel
theorem dX9_nextBlock_50 : decode cX9_nextBlock 50 = .ok (.iload 4, 2) := by decide +kernel
theorem dX9_nextBlock_52 : decode cX9_nextBlock 52 = .ok (.istore_n 2, 1) := by decide +kernel
theorem dX9_nextBlock_53 : decode cX9_nextBlock 53 = .ok (.iload 5, 2) := by decide +kernel
theorem dX9_nextBlock_55 : decode cX9_nextBlock 55 = .ok (.istore_n 3, 1) := by decide +kernel
theorem dX9_nextBlock_56 : decode cX9_nextBlock 56 = .ok (.iinc 4 1, 3) := by decide +kernel
theorem dX9_nextBlock_59 : decode cX9_nextBlock 59 = .ok (.goto (-52), 3) := by decide +kernel
theorem dX9_nextBlock_62 : decode cX9_nextBlock 62 = .ok (.iload_n 2, 1) := by decide +kernel
theorem dX9_nextBlock_63 : decode cX9_nextBlock 63 = .ok (.ireturn, 1) := by decide +kernel
theorem dX9_digOut_0 : decode cX9_digOut 0 = .ok (.aload_n 0, 1) := by decide +kernel
theorem dX9_digOut_1 : decode cX9_digOut 1 = .ok (.getfield 19, 3) := by decide +kernel
theorem dX9_digOut_4 : decode cX9_digOut 4 = .ok (.iload_n 1, 1) := by decide +kernel
theorem dX9_digOut_5 : decode cX9_digOut 5 = .ok (.invokevirtual 128, 3) := by decide +kernel
theorem dX9_digOut_8 : decode cX9_digOut 8 = .ok (.istore_n 2, 1) := by decide +kernel
theorem dX9_digOut_9 : decode cX9_digOut 9 = .ok (.aload_n 0, 1) := by decide +kernel
theorem dX9_digOut_10 : decode cX9_digOut 10 = .ok (.getfield 72, 3) := by decide +kernel
theorem dX9_digOut_13 : decode cX9_digOut 13 = .ok (.iload_n 1, 1) := by decide +kernel
theorem dX9_digOut_14 : decode cX9_digOut 14 = .ok (.invokevirtual 121, 3) := by decide +kernel
theorem dX9_digOut_17 : decode cX9_digOut 17 = .ok (.istore_n 3, 1) := by decide +kernel
theorem dX9_digOut_18 : decode cX9_digOut 18 = .ok (.iload_n 3, 1) := by decide +kernel
theorem dX9_digOut_19 : decode cX9_digOut 19 = .ok (.ifCond .lt 7, 3) := by decide +kernel
theorem dX9_digOut_22 : decode cX9_digOut 22 = .ok (.iload_n 3, 1) := by decide +kernel
theorem dX9_digOut_23 : decode cX9_digOut 23 = .ok (.goto 4, 3) := by decide +kernel
theorem dX9_digOut_26 : decode cX9_digOut 26 = .ok (.iload_n 2, 1) := by decide +kernel
theorem dX9_digOut_27 : decode cX9_digOut 27 = .ok (.istore 4, 2) := by decide +kernel
theorem dX9_digOut_29 : decode cX9_digOut 29 = .ok (.aload_n 0, 1) := by decide +kernel
theorem dX9_digOut_30 : decode cX9_digOut 30 = .ok (.getfield 10, 3) := by decide +kernel
theorem dX9_digOut_33 : decode cX9_digOut 33 = .ok (.iload_n 1, 1) := by decide +kernel
theorem dX9_digOut_34 : decode cX9_digOut 34 = .ok (.aload_n 0, 1) := by decide +kernel
theorem dX9_digOut_35 : decode cX9_digOut 35 = .ok (.getfield 72, 3) := by decide +kernel
theorem dX9_digOut_38 : decode cX9_digOut 38 = .ok (.getfield 209, 3) := by decide +kernel
theorem dX9_digOut_41 : decode cX9_digOut 41 = .ok (.invokevirtual 309, 3) := by decide +kernel
theorem dX9_digOut_44 : decode cX9_digOut 44 = .ok (.aload_n 0, 1) := by decide +kernel
theorem dX9_digOut_45 : decode cX9_digOut 45 = .ok (.getfield 72, 3) := by decide +kernel
theorem dX9_digOut_48 : decode cX9_digOut 48 = .ok (.iload 4, 2) := by decide +kernel
theorem dX9_digOut_50 : decode cX9_digOut 50 = .ok (.iload_n 2, 1) := by decide +kernel
theorem dX9_digOut_51 : decode cX9_digOut 51 = .ok (.invokevirtual 312, 3) := by decide +kernel
theorem dX9_digOut_54 : decode cX9_digOut 54 = .ok (.aload_n 0, 1) := by decide +kernel
theorem dX9_digOut_55 : decode cX9_digOut 55 = .ok (.getfield 72, 3) := by decide +kernel
theorem dX9_digOut_58 : decode cX9_digOut 58 = .ok (.dup, 1) := by decide +kernel
theorem dX9_digOut_59 : decode cX9_digOut 59 = .ok (.getfield 245, 3) := by decide +kernel
theorem dX9_digOut_62 : decode cX9_digOut 62 = .ok (.iload_n 1, 1) := by decide +kernel
theorem dX9_digOut_63 : decode cX9_digOut 63 = .ok (.invokestatic 315, 3) := by decide +kernel
theorem dX9_digOut_66 : decode cX9_digOut 66 = .ok (.i2l, 1) := by decide +kernel
theorem dX9_digOut_67 : decode cX9_digOut 67 = .ok (.lsub, 1) := by decide +kernel
theorem dX9_digOut_68 : decode cX9_digOut 68 = .ok (.putfield 245, 3) := by decide +kernel
theorem dX9_digOut_71 : decode cX9_digOut 71 = .ok (.aload_n 0, 1) := by decide +kernel
theorem dX9_digOut_72 : decode cX9_digOut 72 = .ok (.iload_n 1, 1) := by decide +kernel
theorem dX9_digOut_73 : decode cX9_digOut 73 = .ok (.iload 4, 2) := by decide +kernel
theorem dX9_digOut_75 : decode cX9_digOut 75 = .ok (.invokevirtual 318, 3) := by decide +kernel
theorem dX9_digOut_78 : decode cX9_digOut 78 = .ok (.iload_n 3, 1) := by decide +kernel
theorem dX9_digOut_79 : decode cX9_digOut 79 = .ok (.ifCond .lt 22, 3) := by decide +kernel
theorem dX9_digOut_82 : decode cX9_digOut 82 = .ok (.aload_n 0, 1) := by decide +kernel
theorem dX9_digOut_83 : decode cX9_digOut 83 = .ok (.getfield 19, 3) := by decide +kernel
theorem dX9_digOut_86 : decode cX9_digOut 86 = .ok (.invokevirtual 104, 3) := by decide +kernel
theorem dX9_digOut_89 : decode cX9_digOut 89 = .ok (.ifCond .ne 12, 3) := by decide +kernel
theorem dX9_digOut_92 : decode cX9_digOut 92 = .ok (.aload_n 0, 1) := by decide +kernel
theorem dX9_digOut_93 : decode cX9_digOut 93 = .ok (.getfield 19, 3) := by decide +kernel
theorem dX9_digOut_96 : decode cX9_digOut 96 = .ok (.iload_n 1, 1) := by decide +kernel
theorem dX9_digOut_97 : decode cX9_digOut 97 = .ok (.iload_n 3, 1) := by decide +kernel
theorem dX9_digOut_98 : decode cX9_digOut 98 = .ok (.invokevirtual 113, 3) := by decide +kernel
theorem dX9_digOut_101 : decode cX9_digOut 101 = .ok (.aload_n 0, 1) := by decide +kernel
theorem dX9_digOut_102 : decode cX9_digOut 102 = .ok (.getfield 37, 3) := by decide +kernel
theorem dX9_digOut_105 : decode cX9_digOut 105 = .ok (.invokevirtual 98, 3) := by decide +kernel
theorem dX9_digOut_108 : decode cX9_digOut 108 = .ok (.return_, 1) := by decide +kernel
theorem dX9_haul_0 : decode cX9_haul 0 = .ok (.iload_n 2, 1) := by decide +kernel
theorem dX9_haul_1 : decode cX9_haul 1 = .ok (.aload_n 0, 1) := by decide +kernel
theorem dX9_haul_2 : decode cX9_haul 2 = .ok (.getfield 44, 3) := by decide +kernel
theorem dX9_haul_5 : decode cX9_haul 5 = .ok (.bipush 99, 2) := by decide +kernel
theorem dX9_haul_7 : decode cX9_haul 7 = .ok (.invokevirtual 190, 3) := by decide +kernel
theorem dX9_haul_10 : decode cX9_haul 10 = .ok (.if_icmp .lt 43, 3) := by decide +kernel
theorem dX9_haul_13 : decode cX9_haul 13 = .ok (.aload_n 0, 1) := by decide +kernel
theorem dX9_haul_14 : decode cX9_haul 14 = .ok (.getfield 58, 3) := by decide +kernel
theorem dX9_haul_17 : decode cX9_haul 17 = .ok (.getfield 295, 3) := by decide +kernel
theorem dX9_haul_20 : decode cX9_haul 20 = .ok (.aload_n 0, 1) := by decide +kernel
theorem dX9_haul_21 : decode cX9_haul 21 = .ok (.getfield 44, 3) := by decide +kernel
theorem dX9_haul_24 : decode cX9_haul 24 = .ok (.bipush 112, 2) := by decide +kernel
theorem dX9_haul_26 : decode cX9_haul 26 = .ok (.invokevirtual 190, 3) := by decide +kernel
theorem dX9_haul_29 : decode cX9_haul 29 = .ok (.if_icmp .ge 24, 3) := by decide +kernel
theorem dX9_haul_32 : decode cX9_haul 32 = .ok (.aload_n 0, 1) := by decide +kernel
theorem dX9_haul_33 : decode cX9_haul 33 = .ok (.getfield 58, 3) := by decide +kernel
theorem dX9_haul_36 : decode cX9_haul 36 = .ok (.iload_n 2, 1) := by decide +kernel
theorem dX9_haul_37 : decode cX9_haul 37 = .ok (.invokevirtual 321, 3) := by decide +kernel
theorem dX9_haul_40 : decode cX9_haul 40 = .ok (.aload_n 0, 1) := by decide +kernel
theorem dX9_haul_41 : decode cX9_haul 41 = .ok (.getfield 72, 3) := by decide +kernel
theorem dX9_haul_44 : decode cX9_haul 44 = .ok (.iload_n 1, 1) := by decide +kernel
theorem dX9_haul_45 : decode cX9_haul 45 = .ok (.bipush 112, 2) := by decide +kernel
theorem dX9_haul_47 : decode cX9_haul 47 = .ok (.invokevirtual 324, 3) := by decide +kernel
theorem dX9_haul_50 : decode cX9_haul 50 = .ok (.goto 60, 3) := by decide +kernel
theorem dX9_haul_53 : decode cX9_haul 53 = .ok (.iload_n 2, 1) := by decide +kernel
theorem dX9_haul_54 : decode cX9_haul 54 = .ok (.aload_n 0, 1) := by decide +kernel
theorem dX9_haul_55 : decode cX9_haul 55 = .ok (.getfield 44, 3) := by decide +kernel
theorem dX9_haul_58 : decode cX9_haul 58 = .ok (.bipush 108, 2) := by decide +kernel
theorem dX9_haul_60 : decode cX9_haul 60 = .ok (.invokevirtual 190, 3) := by decide +kernel
theorem dX9_haul_63 : decode cX9_haul 63 = .ok (.if_icmp .lt 24, 3) := by decide +kernel
theorem dX9_haul_66 : decode cX9_haul 66 = .ok (.aload_n 0, 1) := by decide +kernel
theorem dX9_haul_67 : decode cX9_haul 67 = .ok (.getfield 51, 3) := by decide +kernel
theorem dX9_haul_70 : decode cX9_haul 70 = .ok (.iload_n 2, 1) := by decide +kernel
theorem dX9_haul_71 : decode cX9_haul 71 = .ok (.invokevirtual 328, 3) := by decide +kernel
theorem dX9_haul_74 : decode cX9_haul 74 = .ok (.aload_n 0, 1) := by decide +kernel
theorem dX9_haul_75 : decode cX9_haul 75 = .ok (.getfield 72, 3) := by decide +kernel
theorem dX9_haul_78 : decode cX9_haul 78 = .ok (.iload_n 1, 1) := by decide +kernel
theorem dX9_haul_79 : decode cX9_haul 79 = .ok (.bipush 115, 2) := by decide +kernel
theorem dX9_haul_81 : decode cX9_haul 81 = .ok (.invokevirtual 324, 3) := by decide +kernel
theorem dX9_haul_84 : decode cX9_haul 84 = .ok (.goto 26, 3) := by decide +kernel
theorem dX9_haul_87 : decode cX9_haul 87 = .ok (.aload_n 0, 1) := by decide +kernel
theorem dX9_haul_88 : decode cX9_haul 88 = .ok (.getfield 72, 3) := by decide +kernel
theorem dX9_haul_91 : decode cX9_haul 91 = .ok (.dup, 1) := by decide +kernel
theorem dX9_haul_92 : decode cX9_haul 92 = .ok (.getfield 251, 3) := by decide +kernel
theorem dX9_haul_95 : decode cX9_haul 95 = .ok (.iconst 1, 1) := by decide +kernel
theorem dX9_haul_96 : decode cX9_haul 96 = .ok (.iadd, 1) := by decide +kernel
theorem dX9_haul_97 : decode cX9_haul 97 = .ok (.putfield 251, 3) := by decide +kernel
theorem dX9_haul_100 : decode cX9_haul 100 = .ok (.aload_n 0, 1) := by decide +kernel
theorem dX9_haul_101 : decode cX9_haul 101 = .ok (.getfield 72, 3) := by decide +kernel
theorem dX9_haul_104 : decode cX9_haul 104 = .ok (.iload_n 1, 1) := by decide +kernel
theorem dX9_haul_105 : decode cX9_haul 105 = .ok (.bipush 100, 2) := by decide +kernel
theorem dX9_haul_107 : decode cX9_haul 107 = .ok (.invokevirtual 324, 3) := by decide +kernel
theorem dX9_haul_110 : decode cX9_haul 110 = .ok (.return_, 1) := by decide +kernel
theorem dX9_feedFromPile_0 : decode cX9_feedFromPile 0 = .ok (.aload_n 0, 1) := by decide +kernel
theorem dX9_feedFromPile_1 : decode cX9_feedFromPile 1 = .ok (.getfield 58, 3) := by decide +kernel
theorem dX9_feedFromPile_4 : decode cX9_feedFromPile 4 = .ok (.getfield 295, 3) := by decide +kernel
theorem dX9_feedFromPile_7 : decode cX9_feedFromPile 7 = .ok (.istore_n 1, 1) := by decide +kernel
theorem dX9_feedFromPile_8 : decode cX9_feedFromPile 8 = .ok (.iload_n 1, 1) := by decide +kernel
theorem dX9_feedFromPile_9 : decode cX9_feedFromPile 9 = .ok (.aload_n 0, 1) := by decide +kernel
theorem dX9_feedFromPile_10 : decode cX9_feedFromPile 10 = .ok (.getfield 44, 3) := by decide +kernel
theorem dX9_feedFromPile_13 : decode cX9_feedFromPile 13 = .ok (.bipush 112, 2) := by decide +kernel
theorem dX9_feedFromPile_15 : decode cX9_feedFromPile 15 = .ok (.invokevirtual 190, 3) := by decide +kernel
theorem dX9_feedFromPile_18 : decode cX9_feedFromPile 18 = .ok (.if_icmp .ge 33, 3) := by decide +kernel
theorem dX9_feedFromPile_21 : decode cX9_feedFromPile 21 = .ok (.aload_n 0, 1) := by decide +kernel
theorem dX9_feedFromPile_22 : decode cX9_feedFromPile 22 = .ok (.getfield 51, 3) := by decide +kernel
theorem dX9_feedFromPile_25 : decode cX9_feedFromPile 25 = .ok (.invokevirtual 222, 3) := by decide +kernel
theorem dX9_feedFromPile_28 : decode cX9_feedFromPile 28 = .ok (.ifCond .le 23, 3) := by decide +kernel
theorem dX9_feedFromPile_31 : decode cX9_feedFromPile 31 = .ok (.aload_n 0, 1) := by decide +kernel
theorem dX9_feedFromPile_32 : decode cX9_feedFromPile 32 = .ok (.getfield 58, 3) := by decide +kernel
theorem dX9_feedFromPile_35 : decode cX9_feedFromPile 35 = .ok (.aload_n 0, 1) := by decide +kernel
theorem dX9_feedFromPile_36 : decode cX9_feedFromPile 36 = .ok (.getfield 51, 3) := by decide +kernel
theorem dX9_feedFromPile_39 : decode cX9_feedFromPile 39 = .ok (.invokevirtual 331, 3) := by decide +kernel
theorem dX9_feedFromPile_42 : decode cX9_feedFromPile 42 = .ok (.invokevirtual 321, 3) := by decide +kernel
theorem dX9_feedFromPile_45 : decode cX9_feedFromPile 45 = .ok (.iinc 1 1, 3) := by decide +kernel
theorem dX9_feedFromPile_48 : decode cX9_feedFromPile 48 = .ok (.goto (-40), 3) := by decide +kernel
theorem dX9_feedFromPile_51 : decode cX9_feedFromPile 51 = .ok (.return_, 1) := by decide +kernel
theorem dX9_requireBlock_0 : decode cX9_requireBlock 0 = .ok (.iload_n 0, 1) := by decide +kernel
theorem dX9_requireBlock_1 : decode cX9_requireBlock 1 = .ok (.invokestatic 334, 3) := by decide +kernel
theorem dX9_requireBlock_4 : decode cX9_requireBlock 4 = .ok (.ifCond .ne 14, 3) := by decide +kernel
theorem dX9_requireBlock_7 : decode cX9_requireBlock 7 = .ok (.new 337, 3) := by decide +kernel
theorem dX9_requireBlock_10 : decode cX9_requireBlock 10 = .ok (.dup, 1) := by decide +kernel
theorem dX9_requireBlock_11 : decode cX9_requireBlock 11 = .ok (.ldc_w 339, 3) := by decide +kernel
theorem dX9_requireBlock_14 : decode cX9_requireBlock 14 = .ok (.invokespecial 341, 3) := by decide +kernel
theorem dX9_requireBlock_17 : decode cX9_requireBlock 17 = .ok (.athrow, 1) := by decide +kernel
theorem dX9_requireBlock_18 : decode cX9_requireBlock 18 = .ok (.return_, 1) := by decide +kernel
theorem dX9_requireHundred_0 : decode cX9_requireHundred 0 = .ok (.iload_n 0, 1) := by decide +kernel
theorem dX9_requireHundred_1 : decode cX9_requireHundred 1 = .ok (.ifCond .lt 9, 3) := by decide +kernel
theorem dX9_requireHundred_4 : decode cX9_requireHundred 4 = .ok (.iload_n 0, 1) := by decide +kernel
theorem dX9_requireHundred_5 : decode cX9_requireHundred 5 = .ok (.bipush 99, 2) := by decide +kernel
theorem dX9_requireHundred_7 : decode cX9_requireHundred 7 = .ok (.if_icmp .le 14, 3) := by decide +kernel
theorem dX9_requireHundred_10 : decode cX9_requireHundred 10 = .ok (.new 80, 3) := by decide +kernel
theorem dX9_requireHundred_13 : decode cX9_requireHundred 13 = .ok (.dup, 1) := by decide +kernel
theorem dX9_requireHundred_14 : decode cX9_requireHundred 14 = .ok (.ldc_w 342, 3) := by decide +kernel
theorem dX9_requireHundred_17 : decode cX9_requireHundred 17 = .ok (.invokespecial 84, 3) := by decide +kernel
theorem dX9_requireHundred_20 : decode cX9_requireHundred 20 = .ok (.athrow, 1) := by decide +kernel
theorem dX9_requireHundred_21 : decode cX9_requireHundred 21 = .ok (.return_, 1) := by decide +kernel
theorem dX9_requireUndug_0 : decode cX9_requireUndug 0 = .ok (.aload_n 0, 1) := by decide +kernel
theorem dX9_requireUndug_1 : decode cX9_requireUndug 1 = .ok (.getfield 10, 3) := by decide +kernel
theorem dX9_requireUndug_4 : decode cX9_requireUndug 4 = .ok (.iload_n 1, 1) := by decide +kernel
theorem dX9_requireUndug_5 : decode cX9_requireUndug 5 = .ok (.invokevirtual 138, 3) := by decide +kernel
theorem dX9_requireUndug_8 : decode cX9_requireUndug 8 = .ok (.ifCond .eq 14, 3) := by decide +kernel
theorem dX9_requireUndug_11 : decode cX9_requireUndug 11 = .ok (.new 344, 3) := by decide +kernel
theorem dX9_requireUndug_14 : decode cX9_requireUndug 14 = .ok (.dup, 1) := by decide +kernel
theorem dX9_requireUndug_15 : decode cX9_requireUndug 15 = .ok (.ldc_w 346, 3) := by decide +kernel
theorem dX9_requireUndug_18 : decode cX9_requireUndug 18 = .ok (.invokespecial 348, 3) := by decide +kernel
theorem dX9_requireUndug_21 : decode cX9_requireUndug 21 = .ok (.athrow, 1) := by decide +kernel
theorem dX9_requireUndug_22 : decode cX9_requireUndug 22 = .ok (.return_, 1) := by decide +kernel
theorem dX9_requireDug_0 : decode cX9_requireDug 0 = .ok (.aload_n 0, 1) := by decide +kernel
theorem dX9_requireDug_1 : decode cX9_requireDug 1 = .ok (.getfield 10, 3) := by decide +kernel
theorem dX9_requireDug_4 : decode cX9_requireDug 4 = .ok (.iload_n 1, 1) := by decide +kernel
theorem dX9_requireDug_5 : decode cX9_requireDug 5 = .ok (.invokevirtual 138, 3) := by decide +kernel
theorem dX9_requireDug_8 : decode cX9_requireDug 8 = .ok (.ifCond .ne 14, 3) := by decide +kernel
theorem dX9_requireDug_11 : decode cX9_requireDug 11 = .ok (.new 234, 3) := by decide +kernel
theorem dX9_requireDug_14 : decode cX9_requireDug 14 = .ok (.dup, 1) := by decide +kernel
theorem dX9_requireDug_15 : decode cX9_requireDug 15 = .ok (.ldc_w 349, 3) := by decide +kernel
theorem dX9_requireDug_18 : decode cX9_requireDug 18 = .ok (.invokespecial 238, 3) := by decide +kernel
theorem dX9_requireDug_21 : decode cX9_requireDug 21 = .ok (.athrow, 1) := by decide +kernel
theorem dX9_requireDug_22 : decode cX9_requireDug 22 = .ok (.return_, 1) := by decide +kernel
theorem dX9_isBlock_0 : decode cX9_isBlock 0 = .ok (.iload_n 0, 1) := by decide +kernel
theorem dX9_isBlock_1 : decode cX9_isBlock 1 = .ok (.ifCond .lt 13, 3) := by decide +kernel
theorem dX9_isBlock_4 : decode cX9_isBlock 4 = .ok (.iload_n 0, 1) := by decide +kernel
theorem dX9_isBlock_5 : decode cX9_isBlock 5 = .ok (.bipush 60, 2) := by decide +kernel
theorem dX9_isBlock_7 : decode cX9_isBlock 7 = .ok (.if_icmp .ge 7, 3) := by decide +kernel
theorem dX9_isBlock_10 : decode cX9_isBlock 10 = .ok (.iconst 1, 1) := by decide +kernel
theorem dX9_isBlock_11 : decode cX9_isBlock 11 = .ok (.goto 4, 3) := by decide +kernel
theorem dX9_isBlock_14 : decode cX9_isBlock 14 = .ok (.iconst 0, 1) := by decide +kernel
theorem dX9_isBlock_15 : decode cX9_isBlock 15 = .ok (.ireturn, 1) := by decide +kernel
theorem dX9_diggingCost_0 : decode cX9_diggingCost 0 = .ok (.bipush 30, 2) := by decide +kernel
theorem dX9_diggingCost_2 : decode cX9_diggingCost 2 = .ok (.bipush 10, 2) := by decide +kernel
theorem dX9_diggingCost_4 : decode cX9_diggingCost 4 = .ok (.iload_n 0, 1) := by decide +kernel
theorem dX9_diggingCost_5 : decode cX9_diggingCost 5 = .ok (.bipush 10, 2) := by decide +kernel
theorem dX9_diggingCost_7 : decode cX9_diggingCost 7 = .ok (.idiv, 1) := by decide +kernel
theorem dX9_diggingCost_8 : decode cX9_diggingCost 8 = .ok (.imul, 1) := by decide +kernel
theorem dX9_diggingCost_9 : decode cX9_diggingCost 9 = .ok (.iadd, 1) := by decide +kernel
theorem dX9_diggingCost_10 : decode cX9_diggingCost 10 = .ok (.ireturn, 1) := by decide +kernel
theorem dX9_toNearest_0 : decode cX9_toNearest 0 = .ok (.dload_n 0, 1) := by decide +kernel
theorem dX9_toNearest_1 : decode cX9_toNearest 1 = .ok (.d2i, 1) := by decide +kernel
theorem dX9_toNearest_2 : decode cX9_toNearest 2 = .ok (.istore_n 2, 1) := by decide +kernel
theorem dX9_toNearest_3 : decode cX9_toNearest 3 = .ok (.dload_n 0, 1) := by decide +kernel
theorem dX9_toNearest_4 : decode cX9_toNearest 4 = .ok (.iload_n 2, 1) := by decide +kernel
theorem dX9_toNearest_5 : decode cX9_toNearest 5 = .ok (.i2d, 1) := by decide +kernel
theorem dX9_toNearest_6 : decode cX9_toNearest 6 = .ok (.dsub, 1) := by decide +kernel
theorem dX9_toNearest_7 : decode cX9_toNearest 7 = .ok (.dstore_n 3, 1) := by decide +kernel
theorem dX9_toNearest_8 : decode cX9_toNearest 8 = .ok (.dload_n 3, 1) := by decide +kernel
theorem dX9_toNearest_9 : decode cX9_toNearest 9 = .ok (.ldc2_w 351, 3) := by decide +kernel
theorem dX9_toNearest_12 : decode cX9_toNearest 12 = .ok (.dcmp .l, 1) := by decide +kernel
theorem dX9_toNearest_13 : decode cX9_toNearest 13 = .ok (.ifCond .gt 17, 3) := by decide +kernel
theorem dX9_toNearest_16 : decode cX9_toNearest 16 = .ok (.dload_n 3, 1) := by decide +kernel
theorem dX9_toNearest_17 : decode cX9_toNearest 17 = .ok (.ldc2_w 351, 3) := by decide +kernel
theorem dX9_toNearest_20 : decode cX9_toNearest 20 = .ok (.dcmp .l, 1) := by decide +kernel
theorem dX9_toNearest_21 : decode cX9_toNearest 21 = .ok (.ifCond .ne 13, 3) := by decide +kernel
theorem dX9_toNearest_24 : decode cX9_toNearest 24 = .ok (.iload_n 2, 1) := by decide +kernel
theorem dX9_toNearest_25 : decode cX9_toNearest 25 = .ok (.iconst 2, 1) := by decide +kernel
theorem dX9_toNearest_26 : decode cX9_toNearest 26 = .ok (.irem, 1) := by decide +kernel
theorem dX9_toNearest_27 : decode cX9_toNearest 27 = .ok (.ifCond .eq 7, 3) := by decide +kernel
theorem dX9_toNearest_30 : decode cX9_toNearest 30 = .ok (.iconst 1, 1) := by decide +kernel
theorem dX9_toNearest_31 : decode cX9_toNearest 31 = .ok (.goto 4, 3) := by decide +kernel
theorem dX9_toNearest_34 : decode cX9_toNearest 34 = .ok (.iconst 0, 1) := by decide +kernel
theorem dX9_toNearest_35 : decode cX9_toNearest 35 = .ok (.istore 5, 2) := by decide +kernel
theorem dX9_toNearest_37 : decode cX9_toNearest 37 = .ok (.iload 5, 2) := by decide +kernel
theorem dX9_toNearest_39 : decode cX9_toNearest 39 = .ok (.ifCond .eq 9, 3) := by decide +kernel
theorem dX9_toNearest_42 : decode cX9_toNearest 42 = .ok (.iload_n 2, 1) := by decide +kernel
theorem dX9_toNearest_43 : decode cX9_toNearest 43 = .ok (.iconst 1, 1) := by decide +kernel
theorem dX9_toNearest_44 : decode cX9_toNearest 44 = .ok (.iadd, 1) := by decide +kernel
theorem dX9_toNearest_45 : decode cX9_toNearest 45 = .ok (.goto 4, 3) := by decide +kernel
theorem dX9_toNearest_48 : decode cX9_toNearest 48 = .ok (.iload_n 2, 1) := by decide +kernel
theorem dX9_toNearest_49 : decode cX9_toNearest 49 = .ok (.ireturn, 1) := by decide +kernel
theorem dX10_init_0 : decode cX10_init 0 = .ok (.aload_n 0, 1) := by decide +kernel
theorem dX10_init_1 : decode cX10_init 1 = .ok (.invokespecial 3, 3) := by decide +kernel
theorem dX10_init_4 : decode cX10_init 4 = .ok (.aload_n 0, 1) := by decide +kernel
theorem dX10_init_5 : decode cX10_init 5 = .ok (.iconst (-1), 1) := by decide +kernel
theorem dX10_init_6 : decode cX10_init 6 = .ok (.putfield 9, 3) := by decide +kernel
theorem dX10_init_9 : decode cX10_init 9 = .ok (.return_, 1) := by decide +kernel
theorem dX11_init_0 : decode cX11_init 0 = .ok (.aload_n 0, 1) := by decide +kernel
theorem dX11_init_1 : decode cX11_init 1 = .ok (.aload_n 1, 1) := by decide +kernel
theorem dX11_init_2 : decode cX11_init 2 = .ok (.putfield 3, 3) := by decide +kernel
theorem dX11_init_5 : decode cX11_init 5 = .ok (.aload_n 0, 1) := by decide +kernel
theorem dX11_init_6 : decode cX11_init 6 = .ok (.invokespecial 9, 3) := by decide +kernel
theorem dX11_init_9 : decode cX11_init 9 = .ok (.aload_n 0, 1) := by decide +kernel
theorem dX11_init_10 : decode cX11_init 10 = .ok (.bipush 62, 2) := by decide +kernel
theorem dX11_init_12 : decode cX11_init 12 = .ok (.bipush 62, 2) := by decide +kernel
theorem dX11_init_14 : decode cX11_init 14 = .ok (.multianewarray 15 2, 4) := by decide +kernel
theorem dX11_init_18 : decode cX11_init 18 = .ok (.putfield 17, 3) := by decide +kernel
theorem dX11_init_21 : decode cX11_init 21 = .ok (.iconst 0, 1) := by decide +kernel
theorem dX11_init_22 : decode cX11_init 22 = .ok (.istore_n 3, 1) := by decide +kernel
theorem dX11_init_23 : decode cX11_init 23 = .ok (.iload_n 3, 1) := by decide +kernel
theorem dX11_init_24 : decode cX11_init 24 = .ok (.bipush 60, 2) := by decide +kernel
theorem dX11_init_26 : decode cX11_init 26 = .ok (.if_icmp .ge 145, 3) := by decide +kernel
theorem dX11_init_29 : decode cX11_init 29 = .ok (.aload_n 1, 1) := by decide +kernel
theorem dX11_init_30 : decode cX11_init 30 = .ok (.getfield 20, 3) := by decide +kernel
theorem dX11_init_33 : decode cX11_init 33 = .ok (.iload_n 3, 1) := by decide +kernel
theorem dX11_init_34 : decode cX11_init 34 = .ok (.invokeinterface 24 2, 5) := by decide +kernel
theorem dX11_init_39 : decode cX11_init 39 = .ok (.checkcast 30, 3) := by decide +kernel
theorem dX11_init_42 : decode cX11_init 42 = .ok (.getfield 32, 3) := by decide +kernel
theorem dX11_init_45 : decode cX11_init 45 = .ok (.ifCond .eq 6, 3) := by decide +kernel
theorem dX11_init_48 : decode cX11_init 48 = .ok (.goto 117, 3) := by decide +kernel
theorem dX11_init_51 : decode cX11_init 51 = .ok (.aload_n 1, 1) := by decide +kernel
theorem dX11_init_52 : decode cX11_init 52 = .ok (.iload_n 3, 1) := by decide +kernel
theorem dX11_init_53 : decode cX11_init 53 = .ok (.iload_n 2, 1) := by decide +kernel
theorem dX11_init_54 : decode cX11_init 54 = .ok (.invokevirtual 36, 3) := by decide +kernel
theorem dX11_init_57 : decode cX11_init 57 = .ok (.istore 4, 2) := by decide +kernel
theorem dX11_init_59 : decode cX11_init 59 = .ok (.iload 4, 2) := by decide +kernel
theorem dX11_init_61 : decode cX11_init 61 = .ok (.ifCond .le 17, 3) := by decide +kernel
theorem dX11_init_64 : decode cX11_init 64 = .ok (.aload_n 0, 1) := by decide +kernel
theorem dX11_init_65 : decode cX11_init 65 = .ok (.getfield 17, 3) := by decide +kernel
theorem dX11_init_68 : decode cX11_init 68 = .ok (.bipush 60, 2) := by decide +kernel
theorem dX11_init_70 : decode cX11_init 70 = .ok (.aaload, 1) := by decide +kernel
theorem dX11_init_71 : decode cX11_init 71 = .ok (.iload_n 3, 1) := by decide +kernel
theorem dX11_init_72 : decode cX11_init 72 = .ok (.iload 4, 2) := by decide +kernel
theorem dX11_init_74 : decode cX11_init 74 = .ok (.iastore, 1) := by decide +kernel
theorem dX11_init_75 : decode cX11_init 75 = .ok (.goto 15, 3) := by decide +kernel
theorem dX11_init_78 : decode cX11_init 78 = .ok (.aload_n 0, 1) := by decide +kernel
theorem dX11_init_79 : decode cX11_init 79 = .ok (.getfield 17, 3) := by decide +kernel
theorem dX11_init_82 : decode cX11_init 82 = .ok (.iload_n 3, 1) := by decide +kernel
theorem dX11_init_83 : decode cX11_init 83 = .ok (.aaload, 1) := by decide +kernel
theorem dX11_init_84 : decode cX11_init 84 = .ok (.bipush 61, 2) := by decide +kernel
theorem dX11_init_86 : decode cX11_init 86 = .ok (.iload 4, 2) := by decide +kernel
theorem dX11_init_88 : decode cX11_init 88 = .ok (.ineg, 1) := by decide +kernel
theorem dX11_init_89 : decode cX11_init 89 = .ok (.iastore, 1) := by decide +kernel
theorem dX11_init_90 : decode cX11_init 90 = .ok (.aload_n 1, 1) := by decide +kernel
theorem dX11_init_91 : decode cX11_init 91 = .ok (.iload_n 3, 1) := by decide +kernel
theorem dX11_init_92 : decode cX11_init 92 = .ok (.invokevirtual 40, 3) := by decide +kernel
theorem dX11_init_95 : decode cX11_init 95 = .ok (.invokeinterface 44 1, 5) := by decide +kernel
theorem dX11_init_100 : decode cX11_init 100 = .ok (.astore 5, 2) := by decide +kernel
theorem dX11_init_102 : decode cX11_init 102 = .ok (.aload 5, 2) := by decide +kernel
theorem dX11_init_104 : decode cX11_init 104 = .ok (.invokeinterface 48 1, 5) := by decide +kernel
theorem dX11_init_109 : decode cX11_init 109 = .ok (.ifCond .eq 56, 3) := by decide +kernel
theorem dX11_init_112 : decode cX11_init 112 = .ok (.aload 5, 2) := by decide +kernel
theorem dX11_init_114 : decode cX11_init 114 = .ok (.invokeinterface 54 1, 5) := by decide +kernel
theorem dX11_init_119 : decode cX11_init 119 = .ok (.checkcast 58, 3) := by decide +kernel
theorem dX11_init_122 : decode cX11_init 122 = .ok (.invokevirtual 60, 3) := by decide +kernel
theorem dX11_init_125 : decode cX11_init 125 = .ok (.istore 6, 2) := by decide +kernel
theorem dX11_init_127 : decode cX11_init 127 = .ok (.aload_n 0, 1) := by decide +kernel
theorem dX11_init_128 : decode cX11_init 128 = .ok (.getfield 17, 3) := by decide +kernel
theorem dX11_init_131 : decode cX11_init 131 = .ok (.iload_n 3, 1) := by decide +kernel
theorem dX11_init_132 : decode cX11_init 132 = .ok (.aaload, 1) := by decide +kernel
theorem dX11_init_133 : decode cX11_init 133 = .ok (.iload 6, 2) := by decide +kernel
theorem dX11_init_135 : decode cX11_init 135 = .ok (.aload_n 1, 1) := by decide +kernel
theorem dX11_init_136 : decode cX11_init 136 = .ok (.getfield 20, 3) := by decide +kernel
theorem dX11_init_139 : decode cX11_init 139 = .ok (.iload 6, 2) := by decide +kernel
theorem dX11_init_141 : decode cX11_init 141 = .ok (.invokeinterface 24 2, 5) := by decide +kernel
theorem dX11_init_146 : decode cX11_init 146 = .ok (.checkcast 30, 3) := by decide +kernel
theorem dX11_init_149 : decode cX11_init 149 = .ok (.getfield 32, 3) := by decide +kernel
theorem dX11_init_152 : decode cX11_init 152 = .ok (.ifCond .eq 7, 3) := by decide +kernel
theorem dX11_init_155 : decode cX11_init 155 = .ok (.iconst 0, 1) := by decide +kernel
theorem dX11_init_156 : decode cX11_init 156 = .ok (.goto 5, 3) := by decide +kernel
theorem dX11_init_159 : decode cX11_init 159 = .ok (.ldc 64, 2) := by decide +kernel
theorem dX11_init_161 : decode cX11_init 161 = .ok (.iastore, 1) := by decide +kernel
theorem dX11_init_162 : decode cX11_init 162 = .ok (.goto (-60), 3) := by decide +kernel
theorem dX11_init_165 : decode cX11_init 165 = .ok (.iinc 3 1, 3) := by decide +kernel
theorem dX11_init_168 : decode cX11_init 168 = .ok (.goto (-145), 3) := by decide +kernel
theorem dX11_init_171 : decode cX11_init 171 = .ok (.aload_n 0, 1) := by decide +kernel
theorem dX11_init_172 : decode cX11_init 172 = .ok (.invokevirtual 65, 3) := by decide +kernel
theorem dX11_init_175 : decode cX11_init 175 = .ok (.astore_n 3, 1) := by decide +kernel
theorem dX11_init_176 : decode cX11_init 176 = .ok (.aload_n 0, 1) := by decide +kernel
theorem dX11_init_177 : decode cX11_init 177 = .ok (.getfield 69, 3) := by decide +kernel
theorem dX11_init_180 : decode cX11_init 180 = .ok (.bipush 61, 2) := by decide +kernel
theorem dX11_init_182 : decode cX11_init 182 = .ok (.baload, 1) := by decide +kernel
theorem dX11_init_183 : decode cX11_init 183 = .ok (.ifCond .eq 108, 3) := by decide +kernel
theorem dX11_init_186 : decode cX11_init 186 = .ok (.ldc 64, 2) := by decide +kernel
theorem dX11_init_188 : decode cX11_init 188 = .ok (.istore 4, 2) := by decide +kernel
theorem dX11_init_190 : decode cX11_init 190 = .ok (.bipush 61, 2) := by decide +kernel
theorem dX11_init_192 : decode cX11_init 192 = .ok (.istore 5, 2) := by decide +kernel
theorem dX11_init_194 : decode cX11_init 194 = .ok (.iload 5, 2) := by decide +kernel
theorem dX11_init_196 : decode cX11_init 196 = .ok (.bipush 60, 2) := by decide +kernel
theorem dX11_init_198 : decode cX11_init 198 = .ok (.if_icmp .eq 31, 3) := by decide +kernel
theorem dX11_init_201 : decode cX11_init 201 = .ok (.iload 4, 2) := by decide +kernel
theorem dX11_init_203 : decode cX11_init 203 = .ok (.aload_n 0, 1) := by decide +kernel
theorem dX11_init_204 : decode cX11_init 204 = .ok (.getfield 17, 3) := by decide +kernel
theorem dX11_init_207 : decode cX11_init 207 = .ok (.aload_n 3, 1) := by decide +kernel
theorem dX11_init_208 : decode cX11_init 208 = .ok (.iload 5, 2) := by decide +kernel
theorem dX11_init_210 : decode cX11_init 210 = .ok (.iaload, 1) := by decide +kernel
theorem dX11_init_211 : decode cX11_init 211 = .ok (.aaload, 1) := by decide +kernel
theorem dX11_init_212 : decode cX11_init 212 = .ok (.iload 5, 2) := by decide +kernel
theorem dX11_init_214 : decode cX11_init 214 = .ok (.iaload, 1) := by decide +kernel
theorem dX11_init_215 : decode cX11_init 215 = .ok (.invokestatic 73, 3) := by decide +kernel
theorem dX11_init_218 : decode cX11_init 218 = .ok (.istore 4, 2) := by decide +kernel
theorem dX11_init_220 : decode cX11_init 220 = .ok (.aload_n 3, 1) := by decide +kernel
theorem dX11_init_221 : decode cX11_init 221 = .ok (.iload 5, 2) := by decide +kernel
theorem dX11_init_223 : decode cX11_init 223 = .ok (.iaload, 1) := by decide +kernel
theorem dX11_init_224 : decode cX11_init 224 = .ok (.istore 5, 2) := by decide +kernel
theorem dX11_init_226 : decode cX11_init 226 = .ok (.goto (-32), 3) := by decide +kernel
theorem dX11_init_229 : decode cX11_init 229 = .ok (.bipush 61, 2) := by decide +kernel
theorem dX11_init_231 : decode cX11_init 231 = .ok (.istore 5, 2) := by decide +kernel
theorem dX11_init_233 : decode cX11_init 233 = .ok (.iload 5, 2) := by decide +kernel
theorem dX11_init_235 : decode cX11_init 235 = .ok (.bipush 60, 2) := by decide +kernel
theorem dX11_init_237 : decode cX11_init 237 = .ok (.if_icmp .eq 46, 3) := by decide +kernel
theorem dX11_init_240 : decode cX11_init 240 = .ok (.aload_n 0, 1) := by decide +kernel
theorem dX11_init_241 : decode cX11_init 241 = .ok (.getfield 17, 3) := by decide +kernel
theorem dX11_init_244 : decode cX11_init 244 = .ok (.aload_n 3, 1) := by decide +kernel
theorem dX11_init_245 : decode cX11_init 245 = .ok (.iload 5, 2) := by decide +kernel
theorem dX11_init_247 : decode cX11_init 247 = .ok (.iaload, 1) := by decide +kernel
theorem dX11_init_248 : decode cX11_init 248 = .ok (.aaload, 1) := by decide +kernel
theorem dX11_init_249 : decode cX11_init 249 = .ok (.iload 5, 2) := by decide +kernel
theorem dX11_init_251 : decode cX11_init 251 = .ok (.dup2, 1) := by decide +kernel
theorem dX11_init_252 : decode cX11_init 252 = .ok (.iaload, 1) := by decide +kernel
theorem dX11_init_253 : decode cX11_init 253 = .ok (.iload 4, 2) := by decide +kernel
theorem dX11_init_255 : decode cX11_init 255 = .ok (.isub, 1) := by decide +kernel
theorem dX11_init_256 : decode cX11_init 256 = .ok (.iastore, 1) := by decide +kernel
theorem dX11_init_257 : decode cX11_init 257 = .ok (.aload_n 0, 1) := by decide +kernel
theorem dX11_init_258 : decode cX11_init 258 = .ok (.getfield 17, 3) := by decide +kernel
theorem dX11_init_261 : decode cX11_init 261 = .ok (.iload 5, 2) := by decide +kernel
theorem dX11_init_263 : decode cX11_init 263 = .ok (.aaload, 1) := by decide +kernel
theorem dX11_init_264 : decode cX11_init 264 = .ok (.aload_n 3, 1) := by decide +kernel
theorem dX11_init_265 : decode cX11_init 265 = .ok (.iload 5, 2) := by decide +kernel
theorem dX11_init_267 : decode cX11_init 267 = .ok (.iaload, 1) := by decide +kernel
theorem dX11_init_268 : decode cX11_init 268 = .ok (.dup2, 1) := by decide +kernel
theorem dX11_init_269 : decode cX11_init 269 = .ok (.iaload, 1) := by decide +kernel
theorem dX11_init_270 : decode cX11_init 270 = .ok (.iload 4, 2) := by decide +kernel
theorem dX11_init_272 : decode cX11_init 272 = .ok (.iadd, 1) := by decide +kernel
theorem dX11_init_273 : decode cX11_init 273 = .ok (.iastore, 1) := by decide +kernel
theorem dX11_init_274 : decode cX11_init 274 = .ok (.aload_n 3, 1) := by decide +kernel
theorem dX11_init_275 : decode cX11_init 275 = .ok (.iload 5, 2) := by decide +kernel
theorem dX11_init_277 : decode cX11_init 277 = .ok (.iaload, 1) := by decide +kernel
theorem dX11_init_278 : decode cX11_init 278 = .ok (.istore 5, 2) := by decide +kernel
theorem dX11_init_280 : decode cX11_init 280 = .ok (.goto (-47), 3) := by decide +kernel
theorem dX11_init_283 : decode cX11_init 283 = .ok (.aload_n 0, 1) := by decide +kernel
theorem dX11_init_284 : decode cX11_init 284 = .ok (.invokevirtual 65, 3) := by decide +kernel
theorem dX11_init_287 : decode cX11_init 287 = .ok (.astore_n 3, 1) := by decide +kernel
theorem dX11_init_288 : decode cX11_init 288 = .ok (.goto (-112), 3) := by decide +kernel
theorem dX11_init_291 : decode cX11_init 291 = .ok (.return_, 1) := by decide +kernel
theorem dX11_way_0 : decode cX11_way 0 = .ok (.bipush 62, 2) := by decide +kernel
theorem dX11_way_2 : decode cX11_way 2 = .ok (.newarray .int, 2) := by decide +kernel
theorem dX11_way_4 : decode cX11_way 4 = .ok (.astore_n 1, 1) := by decide +kernel
theorem dX11_way_5 : decode cX11_way 5 = .ok (.aload_n 0, 1) := by decide +kernel
theorem dX11_way_6 : decode cX11_way 6 = .ok (.bipush 62, 2) := by decide +kernel
theorem dX11_way_8 : decode cX11_way 8 = .ok (.newarray .boolean, 2) := by decide +kernel
theorem dX11_way_10 : decode cX11_way 10 = .ok (.putfield 69, 3) := by decide +kernel
theorem dX11_way_13 : decode cX11_way 13 = .ok (.aload_n 0, 1) := by decide +kernel
theorem dX11_way_14 : decode cX11_way 14 = .ok (.getfield 69, 3) := by decide +kernel
theorem dX11_way_17 : decode cX11_way 17 = .ok (.bipush 60, 2) := by decide +kernel
theorem dX11_way_19 : decode cX11_way 19 = .ok (.iconst 1, 1) := by decide +kernel
theorem dX11_way_20 : decode cX11_way 20 = .ok (.bastore, 1) := by decide +kernel
theorem dX11_way_21 : decode cX11_way 21 = .ok (.bipush 62, 2) := by decide +kernel
theorem dX11_way_23 : decode cX11_way 23 = .ok (.newarray .int, 2) := by decide +kernel
theorem dX11_way_25 : decode cX11_way 25 = .ok (.astore_n 2, 1) := by decide +kernel
theorem dX11_way_26 : decode cX11_way 26 = .ok (.aload_n 2, 1) := by decide +kernel
theorem dX11_way_27 : decode cX11_way 27 = .ok (.iconst 0, 1) := by decide +kernel
theorem dX11_way_28 : decode cX11_way 28 = .ok (.bipush 60, 2) := by decide +kernel
theorem dX11_way_30 : decode cX11_way 30 = .ok (.iastore, 1) := by decide +kernel
theorem dX11_way_31 : decode cX11_way 31 = .ok (.iconst 1, 1) := by decide +kernel
theorem dX11_way_32 : decode cX11_way 32 = .ok (.istore_n 3, 1) := by decide +kernel
theorem dX11_way_33 : decode cX11_way 33 = .ok (.iconst 0, 1) := by decide +kernel
theorem dX11_way_34 : decode cX11_way 34 = .ok (.istore 4, 2) := by decide +kernel
theorem dX11_way_36 : decode cX11_way 36 = .ok (.iload 4, 2) := by decide +kernel
theorem dX11_way_38 : decode cX11_way 38 = .ok (.iload_n 3, 1) := by decide +kernel
theorem dX11_way_39 : decode cX11_way 39 = .ok (.if_icmp .ge 77, 3) := by decide +kernel
theorem dX11_way_42 : decode cX11_way 42 = .ok (.iconst 0, 1) := by decide +kernel
theorem dX11_way_43 : decode cX11_way 43 = .ok (.istore 5, 2) := by decide +kernel
theorem dX11_way_45 : decode cX11_way 45 = .ok (.iload 5, 2) := by decide +kernel
theorem dX11_way_47 : decode cX11_way 47 = .ok (.bipush 62, 2) := by decide +kernel
theorem dX11_way_49 : decode cX11_way 49 = .ok (.if_icmp .ge 61, 3) := by decide +kernel
theorem dX11_way_52 : decode cX11_way 52 = .ok (.aload_n 0, 1) := by decide +kernel
theorem dX11_way_53 : decode cX11_way 53 = .ok (.getfield 69, 3) := by decide +kernel
theorem dX11_way_56 : decode cX11_way 56 = .ok (.iload 5, 2) := by decide +kernel
theorem dX11_way_58 : decode cX11_way 58 = .ok (.baload, 1) := by decide +kernel
theorem dX11_way_59 : decode cX11_way 59 = .ok (.ifCond .ne 45, 3) := by decide +kernel
theorem dX11_way_62 : decode cX11_way 62 = .ok (.aload_n 0, 1) := by decide +kernel
theorem dX11_way_63 : decode cX11_way 63 = .ok (.getfield 17, 3) := by decide +kernel
theorem dX11_way_66 : decode cX11_way 66 = .ok (.aload_n 2, 1) := by decide +kernel
theorem dX11_way_67 : decode cX11_way 67 = .ok (.iload 4, 2) := by decide +kernel
theorem dX11_way_69 : decode cX11_way 69 = .ok (.iaload, 1) := by decide +kernel
theorem dX11_way_70 : decode cX11_way 70 = .ok (.aaload, 1) := by decide +kernel
theorem dX11_way_71 : decode cX11_way 71 = .ok (.iload 5, 2) := by decide +kernel
theorem dX11_way_73 : decode cX11_way 73 = .ok (.iaload, 1) := by decide +kernel
theorem dX11_way_74 : decode cX11_way 74 = .ok (.ifCond .ne 6, 3) := by decide +kernel
theorem dX11_way_77 : decode cX11_way 77 = .ok (.goto 27, 3) := by decide +kernel
theorem dX11_way_80 : decode cX11_way 80 = .ok (.aload_n 0, 1) := by decide +kernel
theorem dX11_way_81 : decode cX11_way 81 = .ok (.getfield 69, 3) := by decide +kernel
theorem dX11_way_84 : decode cX11_way 84 = .ok (.iload 5, 2) := by decide +kernel
theorem dX11_way_86 : decode cX11_way 86 = .ok (.iconst 1, 1) := by decide +kernel
theorem dX11_way_87 : decode cX11_way 87 = .ok (.bastore, 1) := by decide +kernel
theorem dX11_way_88 : decode cX11_way 88 = .ok (.aload_n 1, 1) := by decide +kernel
theorem dX11_way_89 : decode cX11_way 89 = .ok (.iload 5, 2) := by decide +kernel
theorem dX11_way_91 : decode cX11_way 91 = .ok (.aload_n 2, 1) := by decide +kernel
theorem dX11_way_92 : decode cX11_way 92 = .ok (.iload 4, 2) := by decide +kernel
theorem dX11_way_94 : decode cX11_way 94 = .ok (.iaload, 1) := by decide +kernel
theorem dX11_way_95 : decode cX11_way 95 = .ok (.iastore, 1) := by decide +kernel
theorem dX11_way_96 : decode cX11_way 96 = .ok (.aload_n 2, 1) := by decide +kernel
theorem dX11_way_97 : decode cX11_way 97 = .ok (.iload_n 3, 1) := by decide +kernel
theorem dX11_way_98 : decode cX11_way 98 = .ok (.iload 5, 2) := by decide +kernel
theorem dX11_way_100 : decode cX11_way 100 = .ok (.iastore, 1) := by decide +kernel
theorem dX11_way_101 : decode cX11_way 101 = .ok (.iinc 3 1, 3) := by decide +kernel
theorem dX11_way_104 : decode cX11_way 104 = .ok (.iinc 5 1, 3) := by decide +kernel
theorem dX11_way_107 : decode cX11_way 107 = .ok (.goto (-62), 3) := by decide +kernel
theorem dX11_way_110 : decode cX11_way 110 = .ok (.iinc 4 1, 3) := by decide +kernel
theorem dX11_way_113 : decode cX11_way 113 = .ok (.goto (-77), 3) := by decide +kernel
theorem dX11_way_116 : decode cX11_way 116 = .ok (.aload_n 1, 1) := by decide +kernel
theorem dX11_way_117 : decode cX11_way 117 = .ok (.areturn, 1) := by decide +kernel
theorem dX11_has_0 : decode cX11_has 0 = .ok (.aload_n 0, 1) := by decide +kernel
theorem dX11_has_1 : decode cX11_has 1 = .ok (.getfield 69, 3) := by decide +kernel
theorem dX11_has_4 : decode cX11_has 4 = .ok (.iload_n 1, 1) := by decide +kernel
theorem dX11_has_5 : decode cX11_has 5 = .ok (.baload, 1) := by decide +kernel
theorem dX11_has_6 : decode cX11_has 6 = .ok (.ireturn, 1) := by decide +kernel
theorem dX12_init_0 : decode cX12_init 0 = .ok (.aload_n 0, 1) := by decide +kernel
theorem dX12_init_1 : decode cX12_init 1 = .ok (.invokespecial 1, 3) := by decide +kernel
theorem dX12_init_4 : decode cX12_init 4 = .ok (.aload_n 0, 1) := by decide +kernel
theorem dX12_init_5 : decode cX12_init 5 = .ok (.iload_n 1, 1) := by decide +kernel
theorem dX12_init_6 : decode cX12_init 6 = .ok (.putfield 7, 3) := by decide +kernel
theorem dX12_init_9 : decode cX12_init 9 = .ok (.aload_n 0, 1) := by decide +kernel
theorem dX12_init_10 : decode cX12_init 10 = .ok (.iload_n 2, 1) := by decide +kernel
theorem dX12_init_11 : decode cX12_init 11 = .ok (.putfield 13, 3) := by decide +kernel
theorem dX12_init_14 : decode cX12_init 14 = .ok (.return_, 1) := by decide +kernel
theorem dX13_thrown_0 : decode cX13_thrown 0 = .ok (.aload_n 0, 1) := by decide +kernel
theorem dX13_thrown_1 : decode cX13_thrown 1 = .ok (.getfield 1, 3) := by decide +kernel
theorem dX13_thrown_4 : decode cX13_thrown 4 = .ok (.ireturn, 1) := by decide +kernel
theorem dX13_isWrong_0 : decode cX13_isWrong 0 = .ok (.aload_n 0, 1) := by decide +kernel
theorem dX13_isWrong_1 : decode cX13_isWrong 1 = .ok (.iload_n 1, 1) := by decide +kernel
theorem dX13_isWrong_2 : decode cX13_isWrong 2 = .ok (.putfield 1, 3) := by decide +kernel
theorem dX13_isWrong_5 : decode cX13_isWrong 5 = .ok (.iload_n 1, 1) := by decide +kernel
theorem dX13_isWrong_6 : decode cX13_isWrong 6 = .ok (.ifCond .le 7, 3) := by decide +kernel
theorem dX13_isWrong_9 : decode cX13_isWrong 9 = .ok (.iconst 1, 1) := by decide +kernel
theorem dX13_isWrong_10 : decode cX13_isWrong 10 = .ok (.goto 4, 3) := by decide +kernel
theorem dX13_isWrong_13 : decode cX13_isWrong 13 = .ok (.iconst 0, 1) := by decide +kernel
theorem dX13_isWrong_14 : decode cX13_isWrong 14 = .ok (.ireturn, 1) := by decide +kernel
theorem dX13_isBetween_0 : decode cX13_isBetween 0 = .ok (.iload_n 1, 1) := by decide +kernel
theorem dX13_isBetween_1 : decode cX13_isBetween 1 = .ok (.iload_n 0, 1) := by decide +kernel
theorem dX13_isBetween_2 : decode cX13_isBetween 2 = .ok (.if_icmp .gt 12, 3) := by decide +kernel
theorem dX13_isBetween_5 : decode cX13_isBetween 5 = .ok (.iload_n 0, 1) := by decide +kernel
theorem dX13_isBetween_6 : decode cX13_isBetween 6 = .ok (.iload_n 2, 1) := by decide +kernel
theorem dX13_isBetween_7 : decode cX13_isBetween 7 = .ok (.if_icmp .gt 7, 3) := by decide +kernel
theorem dX13_isBetween_10 : decode cX13_isBetween 10 = .ok (.iconst 1, 1) := by decide +kernel
theorem dX13_isBetween_11 : decode cX13_isBetween 11 = .ok (.goto 4, 3) := by decide +kernel
theorem dX13_isBetween_14 : decode cX13_isBetween 14 = .ok (.iconst 0, 1) := by decide +kernel
theorem dX13_isBetween_15 : decode cX13_isBetween 15 = .ok (.ireturn, 1) := by decide +kernel
theorem dX13_isBlock_0 : decode cX13_isBlock 0 = .ok (.iload_n 0, 1) := by decide +kernel
theorem dX13_isBlock_1 : decode cX13_isBlock 1 = .ok (.iconst 0, 1) := by decide +kernel
theorem dX13_isBlock_2 : decode cX13_isBlock 2 = .ok (.bipush 59, 2) := by decide +kernel
theorem dX13_isBlock_4 : decode cX13_isBlock 4 = .ok (.invokestatic 7, 3) := by decide +kernel
theorem dX13_isBlock_7 : decode cX13_isBlock 7 = .ok (.ireturn, 1) := by decide +kernel
theorem dX13_init_0 : decode cX13_init 0 = .ok (.aload_n 0, 1) := by decide +kernel
theorem dX13_init_1 : decode cX13_init 1 = .ok (.invokespecial 11, 3) := by decide +kernel
theorem dX13_init_4 : decode cX13_init 4 = .ok (.aload_n 0, 1) := by decide +kernel
theorem dX13_init_5 : decode cX13_init 5 = .ok (.new 17, 3) := by decide +kernel
theorem dX13_init_8 : decode cX13_init 8 = .ok (.dup, 1) := by decide +kernel
theorem dX13_init_9 : decode cX13_init 9 = .ok (.invokespecial 19, 3) := by decide +kernel
theorem dX13_init_12 : decode cX13_init 12 = .ok (.putfield 20, 3) := by decide +kernel
theorem dX13_init_15 : decode cX13_init 15 = .ok (.aload_n 0, 1) := by decide +kernel
theorem dX13_init_16 : decode cX13_init 16 = .ok (.new 17, 3) := by decide +kernel
theorem dX13_init_19 : decode cX13_init 19 = .ok (.dup, 1) := by decide +kernel
theorem dX13_init_20 : decode cX13_init 20 = .ok (.invokespecial 19, 3) := by decide +kernel
theorem dX13_init_23 : decode cX13_init 23 = .ok (.putfield 24, 3) := by decide +kernel
theorem dX13_init_26 : decode cX13_init 26 = .ok (.aload_n 0, 1) := by decide +kernel
theorem dX13_init_27 : decode cX13_init 27 = .ok (.new 17, 3) := by decide +kernel
theorem dX13_init_30 : decode cX13_init 30 = .ok (.dup, 1) := by decide +kernel
theorem dX13_init_31 : decode cX13_init 31 = .ok (.invokespecial 19, 3) := by decide +kernel
theorem dX13_init_34 : decode cX13_init 34 = .ok (.putfield 27, 3) := by decide +kernel
theorem dX13_init_37 : decode cX13_init 37 = .ok (.aload_n 0, 1) := by decide +kernel
theorem dX13_init_38 : decode cX13_init 38 = .ok (.new 17, 3) := by decide +kernel
theorem dX13_init_41 : decode cX13_init 41 = .ok (.dup, 1) := by decide +kernel
theorem dX13_init_42 : decode cX13_init 42 = .ok (.invokespecial 19, 3) := by decide +kernel
theorem dX13_init_45 : decode cX13_init 45 = .ok (.putfield 30, 3) := by decide +kernel
theorem dX13_init_48 : decode cX13_init 48 = .ok (.aload_n 0, 1) := by decide +kernel
theorem dX13_init_49 : decode cX13_init 49 = .ok (.bipush 7, 2) := by decide +kernel
theorem dX13_init_51 : decode cX13_init 51 = .ok (.newarray .int, 2) := by decide +kernel
theorem dX13_init_53 : decode cX13_init 53 = .ok (.dup, 1) := by decide +kernel
theorem dX13_init_54 : decode cX13_init 54 = .ok (.iconst 0, 1) := by decide +kernel
theorem dX13_init_55 : decode cX13_init 55 = .ok (.iconst 3, 1) := by decide +kernel
theorem dX13_init_56 : decode cX13_init 56 = .ok (.iastore, 1) := by decide +kernel
theorem dX13_init_57 : decode cX13_init 57 = .ok (.dup, 1) := by decide +kernel
theorem dX13_init_58 : decode cX13_init 58 = .ok (.iconst 1, 1) := by decide +kernel
theorem dX13_init_59 : decode cX13_init 59 = .ok (.iconst 2, 1) := by decide +kernel
theorem dX13_init_60 : decode cX13_init 60 = .ok (.iastore, 1) := by decide +kernel
theorem dX13_init_61 : decode cX13_init 61 = .ok (.dup, 1) := by decide +kernel
theorem dX13_init_62 : decode cX13_init 62 = .ok (.iconst 2, 1) := by decide +kernel
theorem dX13_init_63 : decode cX13_init 63 = .ok (.bipush 20, 2) := by decide +kernel
theorem dX13_init_65 : decode cX13_init 65 = .ok (.iastore, 1) := by decide +kernel
theorem dX13_init_66 : decode cX13_init 66 = .ok (.dup, 1) := by decide +kernel
theorem dX13_init_67 : decode cX13_init 67 = .ok (.iconst 3, 1) := by decide +kernel
theorem dX13_init_68 : decode cX13_init 68 = .ok (.bipush 10, 2) := by decide +kernel
theorem dX13_init_70 : decode cX13_init 70 = .ok (.iastore, 1) := by decide +kernel
theorem dX13_init_71 : decode cX13_init 71 = .ok (.dup, 1) := by decide +kernel
theorem dX13_init_72 : decode cX13_init 72 = .ok (.iconst 4, 1) := by decide +kernel
theorem dX13_init_73 : decode cX13_init 73 = .ok (.bipush 10, 2) := by decide +kernel
theorem dX13_init_75 : decode cX13_init 75 = .ok (.iastore, 1) := by decide +kernel
theorem dX13_init_76 : decode cX13_init 76 = .ok (.dup, 1) := by decide +kernel
theorem dX13_init_77 : decode cX13_init 77 = .ok (.iconst 5, 1) := by decide +kernel
theorem dX13_init_78 : decode cX13_init 78 = .ok (.bipush 10, 2) := by decide +kernel
theorem dX13_init_80 : decode cX13_init 80 = .ok (.iastore, 1) := by decide +kernel
theorem dX13_init_81 : decode cX13_init 81 = .ok (.dup, 1) := by decide +kernel
theorem dX13_init_82 : decode cX13_init 82 = .ok (.bipush 6, 2) := by decide +kernel
theorem dX13_init_84 : decode cX13_init 84 = .ok (.iconst 5, 1) := by decide +kernel
theorem dX13_init_85 : decode cX13_init 85 = .ok (.iastore, 1) := by decide +kernel
theorem dX13_init_86 : decode cX13_init 86 = .ok (.putfield 33, 3) := by decide +kernel
theorem dX13_init_89 : decode cX13_init 89 = .ok (.iconst 0, 1) := by decide +kernel
theorem dX13_init_90 : decode cX13_init 90 = .ok (.istore_n 1, 1) := by decide +kernel
theorem dX13_init_91 : decode cX13_init 91 = .ok (.iload_n 1, 1) := by decide +kernel
theorem dX13_init_92 : decode cX13_init 92 = .ok (.bipush 60, 2) := by decide +kernel
theorem dX13_init_94 : decode cX13_init 94 = .ok (.if_icmp .ge 26, 3) := by decide +kernel
theorem dX13_init_97 : decode cX13_init 97 = .ok (.aload_n 0, 1) := by decide +kernel
theorem dX13_init_98 : decode cX13_init 98 = .ok (.getfield 20, 3) := by decide +kernel
theorem dX13_init_101 : decode cX13_init 101 = .ok (.new 37, 3) := by decide +kernel
theorem dX13_init_104 : decode cX13_init 104 = .ok (.dup, 1) := by decide +kernel
theorem dX13_init_105 : decode cX13_init 105 = .ok (.invokespecial 39, 3) := by decide +kernel
theorem dX13_init_108 : decode cX13_init 108 = .ok (.invokeinterface 40 2, 5) := by decide +kernel
theorem dX13_init_113 : decode cX13_init 113 = .ok (.pop, 1) := by decide +kernel
theorem dX13_init_114 : decode cX13_init 114 = .ok (.iinc 1 1, 3) := by decide +kernel
theorem dX13_init_117 : decode cX13_init 117 = .ok (.goto (-26), 3) := by decide +kernel
theorem dX13_init_120 : decode cX13_init 120 = .ok (.return_, 1) := by decide +kernel
theorem dX13_rock_0 : decode cX13_rock 0 = .ok (.aload_n 0, 1) := by decide +kernel
theorem dX13_rock_1 : decode cX13_rock 1 = .ok (.iload_n 1, 1) := by decide +kernel
theorem dX13_rock_2 : decode cX13_rock 2 = .ok (.invokestatic 46, 3) := by decide +kernel
theorem dX13_rock_5 : decode cX13_rock 5 = .ok (.ifCond .ne 7, 3) := by decide +kernel
theorem dX13_rock_8 : decode cX13_rock 8 = .ok (.iconst 1, 1) := by decide +kernel
theorem dX13_rock_9 : decode cX13_rock 9 = .ok (.goto 43, 3) := by decide +kernel
theorem dX13_rock_12 : decode cX13_rock 12 = .ok (.iload_n 2, 1) := by decide +kernel
theorem dX13_rock_13 : decode cX13_rock 13 = .ok (.bipush 115, 2) := by decide +kernel
theorem dX13_rock_15 : decode cX13_rock 15 = .ok (.if_icmp .eq 13, 3) := by decide +kernel
theorem dX13_rock_18 : decode cX13_rock 18 = .ok (.iload_n 2, 1) := by decide +kernel
theorem dX13_rock_19 : decode cX13_rock 19 = .ok (.bipush 104, 2) := by decide +kernel
theorem dX13_rock_21 : decode cX13_rock 21 = .ok (.if_icmp .eq 7, 3) := by decide +kernel
theorem dX13_rock_24 : decode cX13_rock 24 = .ok (.iconst 2, 1) := by decide +kernel
theorem dX13_rock_25 : decode cX13_rock 25 = .ok (.goto 27, 3) := by decide +kernel
theorem dX13_rock_28 : decode cX13_rock 28 = .ok (.aload_n 0, 1) := by decide +kernel
theorem dX13_rock_29 : decode cX13_rock 29 = .ok (.getfield 20, 3) := by decide +kernel
theorem dX13_rock_32 : decode cX13_rock 32 = .ok (.iload_n 1, 1) := by decide +kernel
theorem dX13_rock_33 : decode cX13_rock 33 = .ok (.invokeinterface 50 2, 5) := by decide +kernel
theorem dX13_rock_38 : decode cX13_rock 38 = .ok (.checkcast 37, 3) := by decide +kernel
theorem dX13_rock_41 : decode cX13_rock 41 = .ok (.getfield 54, 3) := by decide +kernel
theorem dX13_rock_44 : decode cX13_rock 44 = .ok (.ifCond .eq 7, 3) := by decide +kernel
theorem dX13_rock_47 : decode cX13_rock 47 = .ok (.iconst 3, 1) := by decide +kernel
theorem dX13_rock_48 : decode cX13_rock 48 = .ok (.goto 4, 3) := by decide +kernel
theorem dX13_rock_51 : decode cX13_rock 51 = .ok (.iconst 0, 1) := by decide +kernel
theorem dX13_rock_52 : decode cX13_rock 52 = .ok (.invokevirtual 58, 3) := by decide +kernel
theorem dX13_rock_55 : decode cX13_rock 55 = .ok (.ifCond .eq 5, 3) := by decide +kernel
theorem dX13_rock_58 : decode cX13_rock 58 = .ok (.iconst 0, 1) := by decide +kernel
theorem dX13_rock_59 : decode cX13_rock 59 = .ok (.ireturn, 1) := by decide +kernel
theorem dX13_rock_60 : decode cX13_rock 60 = .ok (.aload_n 0, 1) := by decide +kernel
theorem dX13_rock_61 : decode cX13_rock 61 = .ok (.getfield 20, 3) := by decide +kernel
theorem dX13_rock_64 : decode cX13_rock 64 = .ok (.iload_n 1, 1) := by decide +kernel
theorem dX13_rock_65 : decode cX13_rock 65 = .ok (.invokeinterface 50 2, 5) := by decide +kernel
theorem dX13_rock_70 : decode cX13_rock 70 = .ok (.checkcast 37, 3) := by decide +kernel
theorem dX13_rock_73 : decode cX13_rock 73 = .ok (.getfield 61, 3) := by decide +kernel
theorem dX13_rock_76 : decode cX13_rock 76 = .ok (.ifCond .eq 8, 3) := by decide +kernel
theorem dX13_rock_79 : decode cX13_rock 79 = .ok (.bipush 104, 2) := by decide +kernel
theorem dX13_rock_81 : decode cX13_rock 81 = .ok (.goto 5, 3) := by decide +kernel
theorem dX13_rock_84 : decode cX13_rock 84 = .ok (.bipush 115, 2) := by decide +kernel
theorem dX13_rock_86 : decode cX13_rock 86 = .ok (.istore_n 3, 1) := by decide +kernel
theorem dX13_rock_87 : decode cX13_rock 87 = .ok (.aload_n 0, 1) := by decide +kernel
theorem dX13_rock_88 : decode cX13_rock 88 = .ok (.getfield 20, 3) := by decide +kernel
theorem dX13_rock_91 : decode cX13_rock 91 = .ok (.iload_n 1, 1) := by decide +kernel
theorem dX13_rock_92 : decode cX13_rock 92 = .ok (.invokeinterface 50 2, 5) := by decide +kernel
theorem dX13_rock_97 : decode cX13_rock 97 = .ok (.checkcast 37, 3) := by decide +kernel
theorem dX13_rock_100 : decode cX13_rock 100 = .ok (.iload_n 2, 1) := by decide +kernel
theorem dX13_rock_101 : decode cX13_rock 101 = .ok (.bipush 104, 2) := by decide +kernel
theorem dX13_rock_103 : decode cX13_rock 103 = .ok (.if_icmp .ne 7, 3) := by decide +kernel
theorem dX13_rock_106 : decode cX13_rock 106 = .ok (.iconst 1, 1) := by decide +kernel
theorem dX13_rock_107 : decode cX13_rock 107 = .ok (.goto 4, 3) := by decide +kernel
theorem dX13_rock_110 : decode cX13_rock 110 = .ok (.iconst 0, 1) := by decide +kernel
theorem dX13_rock_111 : decode cX13_rock 111 = .ok (.putfield 61, 3) := by decide +kernel
theorem dX13_rock_114 : decode cX13_rock 114 = .ok (.iload_n 3, 1) := by decide +kernel
theorem dX13_rock_115 : decode cX13_rock 115 = .ok (.ireturn, 1) := by decide +kernel
theorem dX13_sample_0 : decode cX13_sample 0 = .ok (.aload_n 0, 1) := by decide +kernel
theorem dX13_sample_1 : decode cX13_sample 1 = .ok (.iload_n 1, 1) := by decide +kernel
theorem dX13_sample_2 : decode cX13_sample 2 = .ok (.invokestatic 46, 3) := by decide +kernel
theorem dX13_sample_5 : decode cX13_sample 5 = .ok (.ifCond .ne 7, 3) := by decide +kernel
theorem dX13_sample_8 : decode cX13_sample 8 = .ok (.iconst 1, 1) := by decide +kernel
theorem dX13_sample_9 : decode cX13_sample 9 = .ok (.goto 36, 3) := by decide +kernel
theorem dX13_sample_12 : decode cX13_sample 12 = .ok (.iload_n 2, 1) := by decide +kernel
theorem dX13_sample_13 : decode cX13_sample 13 = .ok (.iconst 0, 1) := by decide +kernel
theorem dX13_sample_14 : decode cX13_sample 14 = .ok (.bipush 99, 2) := by decide +kernel
theorem dX13_sample_16 : decode cX13_sample 16 = .ok (.invokestatic 7, 3) := by decide +kernel
theorem dX13_sample_19 : decode cX13_sample 19 = .ok (.ifCond .ne 7, 3) := by decide +kernel
theorem dX13_sample_22 : decode cX13_sample 22 = .ok (.iconst 2, 1) := by decide +kernel
theorem dX13_sample_23 : decode cX13_sample 23 = .ok (.goto 22, 3) := by decide +kernel
theorem dX13_sample_26 : decode cX13_sample 26 = .ok (.aload_n 0, 1) := by decide +kernel
theorem dX13_sample_27 : decode cX13_sample 27 = .ok (.getfield 24, 3) := by decide +kernel
theorem dX13_sample_30 : decode cX13_sample 30 = .ok (.invokeinterface 64 1, 5) := by decide +kernel
theorem dX13_sample_35 : decode cX13_sample 35 = .ok (.bipush 40, 2) := by decide +kernel
theorem dX13_sample_37 : decode cX13_sample 37 = .ok (.if_icmp .ne 7, 3) := by decide +kernel
theorem dX13_sample_40 : decode cX13_sample 40 = .ok (.iconst 3, 1) := by decide +kernel
theorem dX13_sample_41 : decode cX13_sample 41 = .ok (.goto 4, 3) := by decide +kernel
theorem dX13_sample_44 : decode cX13_sample 44 = .ok (.iconst 0, 1) := by decide +kernel
theorem dX13_sample_45 : decode cX13_sample 45 = .ok (.invokevirtual 58, 3) := by decide +kernel
theorem dX13_sample_48 : decode cX13_sample 48 = .ok (.ifCond .eq 5, 3) := by decide +kernel
theorem dX13_sample_51 : decode cX13_sample 51 = .ok (.iconst 0, 1) := by decide +kernel
theorem dX13_sample_52 : decode cX13_sample 52 = .ok (.ireturn, 1) := by decide +kernel
theorem dX13_sample_53 : decode cX13_sample 53 = .ok (.aload_n 0, 1) := by decide +kernel
theorem dX13_sample_54 : decode cX13_sample 54 = .ok (.getfield 24, 3) := by decide +kernel
theorem dX13_sample_57 : decode cX13_sample 57 = .ok (.new 68, 3) := by decide +kernel
theorem dX13_sample_60 : decode cX13_sample 60 = .ok (.dup, 1) := by decide +kernel
theorem dX13_sample_61 : decode cX13_sample 61 = .ok (.iload_n 1, 1) := by decide +kernel
theorem dX13_sample_62 : decode cX13_sample 62 = .ok (.iload_n 2, 1) := by decide +kernel
theorem dX13_sample_63 : decode cX13_sample 63 = .ok (.invokespecial 70, 3) := by decide +kernel
theorem dX13_sample_66 : decode cX13_sample 66 = .ok (.invokeinterface 40 2, 5) := by decide +kernel
theorem dX13_sample_71 : decode cX13_sample 71 = .ok (.pop, 1) := by decide +kernel
theorem dX13_sample_72 : decode cX13_sample 72 = .ok (.aload_n 0, 1) := by decide +kernel
theorem dX13_sample_73 : decode cX13_sample 73 = .ok (.getfield 24, 3) := by decide +kernel
theorem dX13_sample_76 : decode cX13_sample 76 = .ok (.invokeinterface 64 1, 5) := by decide +kernel
theorem dX13_sample_81 : decode cX13_sample 81 = .ok (.ireturn, 1) := by decide +kernel
theorem dX13_tellTruth_0 : decode cX13_tellTruth 0 = .ok (.aload_n 0, 1) := by decide +kernel
theorem dX13_tellTruth_1 : decode cX13_tellTruth 1 = .ok (.iload_n 1, 1) := by decide +kernel
theorem dX13_tellTruth_2 : decode cX13_tellTruth 2 = .ok (.invokestatic 46, 3) := by decide +kernel
theorem dX13_tellTruth_5 : decode cX13_tellTruth 5 = .ok (.ifCond .ne 7, 3) := by decide +kernel
theorem dX13_tellTruth_8 : decode cX13_tellTruth 8 = .ok (.iconst 1, 1) := by decide +kernel
theorem dX13_tellTruth_9 : decode cX13_tellTruth 9 = .ok (.goto 41, 3) := by decide +kernel
theorem dX13_tellTruth_12 : decode cX13_tellTruth 12 = .ok (.iload_n 2, 1) := by decide +kernel
theorem dX13_tellTruth_13 : decode cX13_tellTruth 13 = .ok (.iconst 0, 1) := by decide +kernel
theorem dX13_tellTruth_14 : decode cX13_tellTruth 14 = .ok (.bipush 99, 2) := by decide +kernel
theorem dX13_tellTruth_16 : decode cX13_tellTruth 16 = .ok (.invokestatic 7, 3) := by decide +kernel
theorem dX13_tellTruth_19 : decode cX13_tellTruth 19 = .ok (.ifCond .ne 7, 3) := by decide +kernel
theorem dX13_tellTruth_22 : decode cX13_tellTruth 22 = .ok (.iconst 2, 1) := by decide +kernel
theorem dX13_tellTruth_23 : decode cX13_tellTruth 23 = .ok (.goto 27, 3) := by decide +kernel
theorem dX13_tellTruth_26 : decode cX13_tellTruth 26 = .ok (.aload_n 0, 1) := by decide +kernel
theorem dX13_tellTruth_27 : decode cX13_tellTruth 27 = .ok (.getfield 20, 3) := by decide +kernel
theorem dX13_tellTruth_30 : decode cX13_tellTruth 30 = .ok (.iload_n 1, 1) := by decide +kernel
theorem dX13_tellTruth_31 : decode cX13_tellTruth 31 = .ok (.invokeinterface 50 2, 5) := by decide +kernel
theorem dX13_tellTruth_36 : decode cX13_tellTruth 36 = .ok (.checkcast 37, 3) := by decide +kernel
theorem dX13_tellTruth_39 : decode cX13_tellTruth 39 = .ok (.getfield 54, 3) := by decide +kernel
theorem dX13_tellTruth_42 : decode cX13_tellTruth 42 = .ok (.ifCond .eq 7, 3) := by decide +kernel
theorem dX13_tellTruth_45 : decode cX13_tellTruth 45 = .ok (.iconst 3, 1) := by decide +kernel
theorem dX13_tellTruth_46 : decode cX13_tellTruth 46 = .ok (.goto 4, 3) := by decide +kernel
theorem dX13_tellTruth_49 : decode cX13_tellTruth 49 = .ok (.iconst 0, 1) := by decide +kernel
theorem dX13_tellTruth_50 : decode cX13_tellTruth 50 = .ok (.invokevirtual 58, 3) := by decide +kernel
theorem dX13_tellTruth_53 : decode cX13_tellTruth 53 = .ok (.ifCond .eq 5, 3) := by decide +kernel
theorem dX13_tellTruth_56 : decode cX13_tellTruth 56 = .ok (.iconst 0, 1) := by decide +kernel
theorem dX13_tellTruth_57 : decode cX13_tellTruth 57 = .ok (.ireturn, 1) := by decide +kernel
theorem dX13_tellTruth_58 : decode cX13_tellTruth 58 = .ok (.aload_n 0, 1) := by decide +kernel
theorem dX13_tellTruth_59 : decode cX13_tellTruth 59 = .ok (.getfield 20, 3) := by decide +kernel
theorem dX13_tellTruth_62 : decode cX13_tellTruth 62 = .ok (.iload_n 1, 1) := by decide +kernel
theorem dX13_tellTruth_63 : decode cX13_tellTruth 63 = .ok (.invokeinterface 50 2, 5) := by decide +kernel
theorem dX13_tellTruth_68 : decode cX13_tellTruth 68 = .ok (.checkcast 37, 3) := by decide +kernel
theorem dX13_tellTruth_71 : decode cX13_tellTruth 71 = .ok (.getfield 73, 3) := by decide +kernel
theorem dX13_tellTruth_74 : decode cX13_tellTruth 74 = .ok (.istore_n 3, 1) := by decide +kernel
theorem dX13_tellTruth_75 : decode cX13_tellTruth 75 = .ok (.aload_n 0, 1) := by decide +kernel
theorem dX13_tellTruth_76 : decode cX13_tellTruth 76 = .ok (.getfield 20, 3) := by decide +kernel
theorem dX13_tellTruth_79 : decode cX13_tellTruth 79 = .ok (.iload_n 1, 1) := by decide +kernel
theorem dX13_tellTruth_80 : decode cX13_tellTruth 80 = .ok (.invokeinterface 50 2, 5) := by decide +kernel
theorem dX13_tellTruth_85 : decode cX13_tellTruth 85 = .ok (.checkcast 37, 3) := by decide +kernel
theorem dX13_tellTruth_88 : decode cX13_tellTruth 88 = .ok (.iload_n 2, 1) := by decide +kernel
theorem dX13_tellTruth_89 : decode cX13_tellTruth 89 = .ok (.putfield 73, 3) := by decide +kernel
theorem dX13_tellTruth_92 : decode cX13_tellTruth 92 = .ok (.iload_n 3, 1) := by decide +kernel
theorem dX13_tellTruth_93 : decode cX13_tellTruth 93 = .ok (.ireturn, 1) := by decide +kernel
theorem dX13_gradeOf_0 : decode cX13_gradeOf 0 = .ok (.dconst 0, 1) := by decide +kernel
theorem dX13_gradeOf_1 : decode cX13_gradeOf 1 = .ok (.dstore_n 2, 1) := by decide +kernel
theorem dX13_gradeOf_2 : decode cX13_gradeOf 2 = .ok (.dconst 0, 1) := by decide +kernel
theorem dX13_gradeOf_3 : decode cX13_gradeOf 3 = .ok (.dstore 4, 2) := by decide +kernel
theorem dX13_gradeOf_5 : decode cX13_gradeOf 5 = .ok (.dconst 0, 1) := by decide +kernel
theorem dX13_gradeOf_6 : decode cX13_gradeOf 6 = .ok (.dstore 6, 2) := by decide +kernel
theorem dX13_gradeOf_8 : decode cX13_gradeOf 8 = .ok (.iconst 0, 1) := by decide +kernel
theorem dX13_gradeOf_9 : decode cX13_gradeOf 9 = .ok (.istore 8, 2) := by decide +kernel
theorem dX13_gradeOf_11 : decode cX13_gradeOf 11 = .ok (.aload_n 0, 1) := by decide +kernel
theorem dX13_gradeOf_12 : decode cX13_gradeOf 12 = .ok (.getfield 24, 3) := by decide +kernel
theorem dX13_gradeOf_15 : decode cX13_gradeOf 15 = .ok (.invokeinterface 76 1, 5) := by decide +kernel
theorem dX13_gradeOf_20 : decode cX13_gradeOf 20 = .ok (.astore 9, 2) := by decide +kernel
theorem dX13_gradeOf_22 : decode cX13_gradeOf 22 = .ok (.aload 9, 2) := by decide +kernel
theorem dX13_gradeOf_24 : decode cX13_gradeOf 24 = .ok (.invokeinterface 80 1, 5) := by decide +kernel
theorem dX13_gradeOf_29 : decode cX13_gradeOf 29 = .ok (.ifCond .eq 111, 3) := by decide +kernel
theorem dX13_gradeOf_32 : decode cX13_gradeOf 32 = .ok (.aload 9, 2) := by decide +kernel
theorem dX13_gradeOf_34 : decode cX13_gradeOf 34 = .ok (.invokeinterface 86 1, 5) := by decide +kernel
theorem dX13_gradeOf_39 : decode cX13_gradeOf 39 = .ok (.checkcast 68, 3) := by decide +kernel
theorem dX13_gradeOf_42 : decode cX13_gradeOf 42 = .ok (.astore 10, 2) := by decide +kernel
theorem dX13_gradeOf_44 : decode cX13_gradeOf 44 = .ok (.aload 10, 2) := by decide +kernel
theorem dX13_gradeOf_46 : decode cX13_gradeOf 46 = .ok (.getfield 90, 3) := by decide +kernel
theorem dX13_gradeOf_49 : decode cX13_gradeOf 49 = .ok (.iload_n 1, 1) := by decide +kernel
theorem dX13_gradeOf_50 : decode cX13_gradeOf 50 = .ok (.if_icmp .ne 18, 3) := by decide +kernel
theorem dX13_gradeOf_53 : decode cX13_gradeOf 53 = .ok (.dload_n 2, 1) := by decide +kernel
theorem dX13_gradeOf_54 : decode cX13_gradeOf 54 = .ok (.aload 10, 2) := by decide +kernel
theorem dX13_gradeOf_56 : decode cX13_gradeOf 56 = .ok (.getfield 93, 3) := by decide +kernel
theorem dX13_gradeOf_59 : decode cX13_gradeOf 59 = .ok (.i2d, 1) := by decide +kernel
theorem dX13_gradeOf_60 : decode cX13_gradeOf 60 = .ok (.dadd, 1) := by decide +kernel
theorem dX13_gradeOf_61 : decode cX13_gradeOf 61 = .ok (.dstore_n 2, 1) := by decide +kernel
theorem dX13_gradeOf_62 : decode cX13_gradeOf 62 = .ok (.iinc 8 1, 3) := by decide +kernel
theorem dX13_gradeOf_65 : decode cX13_gradeOf 65 = .ok (.goto (-43), 3) := by decide +kernel
theorem dX13_gradeOf_68 : decode cX13_gradeOf 68 = .ok (.aload 10, 2) := by decide +kernel
theorem dX13_gradeOf_70 : decode cX13_gradeOf 70 = .ok (.getfield 90, 3) := by decide +kernel
theorem dX13_gradeOf_73 : decode cX13_gradeOf 73 = .ok (.bipush 10, 2) := by decide +kernel
theorem dX13_gradeOf_75 : decode cX13_gradeOf 75 = .ok (.irem, 1) := by decide +kernel
theorem dX13_gradeOf_76 : decode cX13_gradeOf 76 = .ok (.iload_n 1, 1) := by decide +kernel
theorem dX13_gradeOf_77 : decode cX13_gradeOf 77 = .ok (.bipush 10, 2) := by decide +kernel
theorem dX13_gradeOf_79 : decode cX13_gradeOf 79 = .ok (.irem, 1) := by decide +kernel
theorem dX13_gradeOf_80 : decode cX13_gradeOf 80 = .ok (.isub, 1) := by decide +kernel
theorem dX13_gradeOf_81 : decode cX13_gradeOf 81 = .ok (.istore 11, 2) := by decide +kernel
theorem dX13_gradeOf_83 : decode cX13_gradeOf 83 = .ok (.aload 10, 2) := by decide +kernel
theorem dX13_gradeOf_85 : decode cX13_gradeOf 85 = .ok (.getfield 90, 3) := by decide +kernel
theorem dX13_gradeOf_88 : decode cX13_gradeOf 88 = .ok (.bipush 10, 2) := by decide +kernel
theorem dX13_gradeOf_90 : decode cX13_gradeOf 90 = .ok (.idiv, 1) := by decide +kernel
theorem dX13_gradeOf_91 : decode cX13_gradeOf 91 = .ok (.iload_n 1, 1) := by decide +kernel
theorem dX13_gradeOf_92 : decode cX13_gradeOf 92 = .ok (.bipush 10, 2) := by decide +kernel
theorem dX13_gradeOf_94 : decode cX13_gradeOf 94 = .ok (.idiv, 1) := by decide +kernel
theorem dX13_gradeOf_95 : decode cX13_gradeOf 95 = .ok (.isub, 1) := by decide +kernel
theorem dX13_gradeOf_96 : decode cX13_gradeOf 96 = .ok (.istore 12, 2) := by decide +kernel
theorem dX13_gradeOf_98 : decode cX13_gradeOf 98 = .ok (.dconst 1, 1) := by decide +kernel
theorem dX13_gradeOf_99 : decode cX13_gradeOf 99 = .ok (.iload 11, 2) := by decide +kernel
theorem dX13_gradeOf_101 : decode cX13_gradeOf 101 = .ok (.iload 11, 2) := by decide +kernel
theorem dX13_gradeOf_103 : decode cX13_gradeOf 103 = .ok (.imul, 1) := by decide +kernel
theorem dX13_gradeOf_104 : decode cX13_gradeOf 104 = .ok (.iconst 4, 1) := by decide +kernel
theorem dX13_gradeOf_105 : decode cX13_gradeOf 105 = .ok (.iload 12, 2) := by decide +kernel
theorem dX13_gradeOf_107 : decode cX13_gradeOf 107 = .ok (.imul, 1) := by decide +kernel
theorem dX13_gradeOf_108 : decode cX13_gradeOf 108 = .ok (.iload 12, 2) := by decide +kernel
theorem dX13_gradeOf_110 : decode cX13_gradeOf 110 = .ok (.imul, 1) := by decide +kernel
theorem dX13_gradeOf_111 : decode cX13_gradeOf 111 = .ok (.iadd, 1) := by decide +kernel
theorem dX13_gradeOf_112 : decode cX13_gradeOf 112 = .ok (.i2d, 1) := by decide +kernel
theorem dX13_gradeOf_113 : decode cX13_gradeOf 113 = .ok (.ddiv, 1) := by decide +kernel
theorem dX13_gradeOf_114 : decode cX13_gradeOf 114 = .ok (.dstore 13, 2) := by decide +kernel
theorem dX13_gradeOf_116 : decode cX13_gradeOf 116 = .ok (.dload 4, 2) := by decide +kernel
theorem dX13_gradeOf_118 : decode cX13_gradeOf 118 = .ok (.dload 13, 2) := by decide +kernel
theorem dX13_gradeOf_120 : decode cX13_gradeOf 120 = .ok (.aload 10, 2) := by decide +kernel
theorem dX13_gradeOf_122 : decode cX13_gradeOf 122 = .ok (.getfield 93, 3) := by decide +kernel
theorem dX13_gradeOf_125 : decode cX13_gradeOf 125 = .ok (.i2d, 1) := by decide +kernel
theorem dX13_gradeOf_126 : decode cX13_gradeOf 126 = .ok (.dmul, 1) := by decide +kernel
theorem dX13_gradeOf_127 : decode cX13_gradeOf 127 = .ok (.dadd, 1) := by decide +kernel
theorem dX13_gradeOf_128 : decode cX13_gradeOf 128 = .ok (.dstore 4, 2) := by decide +kernel
theorem dX13_gradeOf_130 : decode cX13_gradeOf 130 = .ok (.dload 6, 2) := by decide +kernel
theorem dX13_gradeOf_132 : decode cX13_gradeOf 132 = .ok (.dload 13, 2) := by decide +kernel
theorem dX13_gradeOf_134 : decode cX13_gradeOf 134 = .ok (.dadd, 1) := by decide +kernel
theorem dX13_gradeOf_135 : decode cX13_gradeOf 135 = .ok (.dstore 6, 2) := by decide +kernel
theorem dX13_gradeOf_137 : decode cX13_gradeOf 137 = .ok (.goto (-115), 3) := by decide +kernel
theorem dX13_gradeOf_140 : decode cX13_gradeOf 140 = .ok (.aload_n 0, 1) := by decide +kernel
theorem dX13_gradeOf_141 : decode cX13_gradeOf 141 = .ok (.getfield 24, 3) := by decide +kernel
theorem dX13_gradeOf_144 : decode cX13_gradeOf 144 = .ok (.invokeinterface 96 1, 5) := by decide +kernel
theorem dX13_gradeOf_149 : decode cX13_gradeOf 149 = .ok (.ifCond .eq 5, 3) := by decide +kernel
theorem dX13_gradeOf_152 : decode cX13_gradeOf 152 = .ok (.iconst 0, 1) := by decide +kernel
theorem dX13_gradeOf_153 : decode cX13_gradeOf 153 = .ok (.ireturn, 1) := by decide +kernel
theorem dX13_gradeOf_154 : decode cX13_gradeOf 154 = .ok (.iload 8, 2) := by decide +kernel
theorem dX13_gradeOf_156 : decode cX13_gradeOf 156 = .ok (.ifCond .le 11, 3) := by decide +kernel
theorem dX13_gradeOf_159 : decode cX13_gradeOf 159 = .ok (.dload_n 2, 1) := by decide +kernel
theorem dX13_gradeOf_160 : decode cX13_gradeOf 160 = .ok (.iload 8, 2) := by decide +kernel
theorem dX13_gradeOf_162 : decode cX13_gradeOf 162 = .ok (.i2d, 1) := by decide +kernel
theorem dX13_gradeOf_163 : decode cX13_gradeOf 163 = .ok (.ddiv, 1) := by decide +kernel
theorem dX13_gradeOf_164 : decode cX13_gradeOf 164 = .ok (.goto 8, 3) := by decide +kernel
theorem dX13_gradeOf_167 : decode cX13_gradeOf 167 = .ok (.dload 4, 2) := by decide +kernel
theorem dX13_gradeOf_169 : decode cX13_gradeOf 169 = .ok (.dload 6, 2) := by decide +kernel
theorem dX13_gradeOf_171 : decode cX13_gradeOf 171 = .ok (.ddiv, 1) := by decide +kernel
theorem dX13_gradeOf_172 : decode cX13_gradeOf 172 = .ok (.invokestatic 99, 3) := by decide +kernel
theorem dX13_gradeOf_175 : decode cX13_gradeOf 175 = .ok (.d2i, 1) := by decide +kernel
theorem dX13_gradeOf_176 : decode cX13_gradeOf 176 = .ok (.ireturn, 1) := by decide +kernel
theorem dX13_grade_0 : decode cX13_grade 0 = .ok (.aload_n 0, 1) := by decide +kernel
theorem dX13_grade_1 : decode cX13_grade 1 = .ok (.iload_n 1, 1) := by decide +kernel
theorem dX13_grade_2 : decode cX13_grade 2 = .ok (.invokestatic 46, 3) := by decide +kernel
theorem dX13_grade_5 : decode cX13_grade 5 = .ok (.ifCond .eq 7, 3) := by decide +kernel
theorem dX13_grade_8 : decode cX13_grade 8 = .ok (.iconst 0, 1) := by decide +kernel
theorem dX13_grade_9 : decode cX13_grade 9 = .ok (.goto 4, 3) := by decide +kernel
theorem dX13_grade_12 : decode cX13_grade 12 = .ok (.iconst 1, 1) := by decide +kernel
theorem dX13_grade_13 : decode cX13_grade 13 = .ok (.invokevirtual 58, 3) := by decide +kernel
theorem dX13_grade_16 : decode cX13_grade 16 = .ok (.ifCond .eq 7, 3) := by decide +kernel
theorem dX13_grade_19 : decode cX13_grade 19 = .ok (.iconst 0, 1) := by decide +kernel
theorem dX13_grade_20 : decode cX13_grade 20 = .ok (.goto 8, 3) := by decide +kernel
theorem dX13_grade_23 : decode cX13_grade 23 = .ok (.aload_n 0, 1) := by decide +kernel
theorem dX13_grade_24 : decode cX13_grade 24 = .ok (.iload_n 1, 1) := by decide +kernel
theorem dX13_grade_25 : decode cX13_grade 25 = .ok (.invokevirtual 105, 3) := by decide +kernel
theorem dX13_grade_28 : decode cX13_grade 28 = .ok (.ireturn, 1) := by decide +kernel
theorem dX13_digging_0 : decode cX13_digging 0 = .ok (.bipush 30, 2) := by decide +kernel
theorem dX13_digging_2 : decode cX13_digging 2 = .ok (.bipush 10, 2) := by decide +kernel
theorem dX13_digging_4 : decode cX13_digging 4 = .ok (.iload_n 0, 1) := by decide +kernel
theorem dX13_digging_5 : decode cX13_digging 5 = .ok (.bipush 10, 2) := by decide +kernel
theorem dX13_digging_7 : decode cX13_digging 7 = .ok (.idiv, 1) := by decide +kernel
theorem dX13_digging_8 : decode cX13_digging 8 = .ok (.imul, 1) := by decide +kernel
theorem dX13_digging_9 : decode cX13_digging 9 = .ok (.iadd, 1) := by decide +kernel
theorem dX13_digging_10 : decode cX13_digging 10 = .ok (.ireturn, 1) := by decide +kernel
theorem dX13_worthOf_0 : decode cX13_worthOf 0 = .ok (.iconst 0, 1) := by decide +kernel
theorem dX13_worthOf_1 : decode cX13_worthOf 1 = .ok (.aload_n 0, 1) := by decide +kernel
theorem dX13_worthOf_2 : decode cX13_worthOf 2 = .ok (.iload_n 1, 1) := by decide +kernel
theorem dX13_worthOf_3 : decode cX13_worthOf 3 = .ok (.invokevirtual 105, 3) := by decide +kernel
theorem dX13_worthOf_6 : decode cX13_worthOf 6 = .ok (.iload_n 2, 1) := by decide +kernel
theorem dX13_worthOf_7 : decode cX13_worthOf 7 = .ok (.imul, 1) := by decide +kernel
theorem dX13_worthOf_8 : decode cX13_worthOf 8 = .ok (.sipush 200, 3) := by decide +kernel
theorem dX13_worthOf_11 : decode cX13_worthOf 11 = .ok (.isub, 1) := by decide +kernel
theorem dX13_worthOf_12 : decode cX13_worthOf 12 = .ok (.invokestatic 109, 3) := by decide +kernel
theorem dX13_worthOf_15 : decode cX13_worthOf 15 = .ok (.iload_n 1, 1) := by decide +kernel
theorem dX13_worthOf_16 : decode cX13_worthOf 16 = .ok (.invokestatic 113, 3) := by decide +kernel
theorem dX13_worthOf_19 : decode cX13_worthOf 19 = .ok (.isub, 1) := by decide +kernel
theorem dX13_worthOf_20 : decode cX13_worthOf 20 = .ok (.ireturn, 1) := by decide +kernel
theorem dX13_isPrice_0 : decode cX13_isPrice 0 = .ok (.iload_n 0, 1) := by decide +kernel
theorem dX13_isPrice_1 : decode cX13_isPrice 1 = .ok (.iconst 0, 1) := by decide +kernel
theorem dX13_isPrice_2 : decode cX13_isPrice 2 = .ok (.bipush 99, 2) := by decide +kernel
theorem dX13_isPrice_4 : decode cX13_isPrice 4 = .ok (.invokestatic 7, 3) := by decide +kernel
theorem dX13_isPrice_7 : decode cX13_isPrice 7 = .ok (.ireturn, 1) := by decide +kernel
theorem dX13_worth_0 : decode cX13_worth 0 = .ok (.aload_n 0, 1) := by decide +kernel
theorem dX13_worth_1 : decode cX13_worth 1 = .ok (.iload_n 1, 1) := by decide +kernel
theorem dX13_worth_2 : decode cX13_worth 2 = .ok (.invokestatic 46, 3) := by decide +kernel
theorem dX13_worth_5 : decode cX13_worth 5 = .ok (.ifCond .ne 7, 3) := by decide +kernel
theorem dX13_worth_8 : decode cX13_worth 8 = .ok (.iconst 1, 1) := by decide +kernel
theorem dX13_worth_9 : decode cX13_worth 9 = .ok (.goto 15, 3) := by decide +kernel
theorem dX13_worth_12 : decode cX13_worth 12 = .ok (.iload_n 2, 1) := by decide +kernel
theorem dX13_worth_13 : decode cX13_worth 13 = .ok (.invokestatic 116, 3) := by decide +kernel
theorem dX13_worth_16 : decode cX13_worth 16 = .ok (.ifCond .ne 7, 3) := by decide +kernel
theorem dX13_worth_19 : decode cX13_worth 19 = .ok (.iconst 2, 1) := by decide +kernel
theorem dX13_worth_20 : decode cX13_worth 20 = .ok (.goto 4, 3) := by decide +kernel
theorem dX13_worth_23 : decode cX13_worth 23 = .ok (.iconst 0, 1) := by decide +kernel
theorem dX13_worth_24 : decode cX13_worth 24 = .ok (.invokevirtual 58, 3) := by decide +kernel
theorem dX13_worth_27 : decode cX13_worth 27 = .ok (.ifCond .eq 7, 3) := by decide +kernel
theorem dX13_worth_30 : decode cX13_worth 30 = .ok (.iconst 0, 1) := by decide +kernel
theorem dX13_worth_31 : decode cX13_worth 31 = .ok (.goto 9, 3) := by decide +kernel
theorem dX13_worth_34 : decode cX13_worth 34 = .ok (.aload_n 0, 1) := by decide +kernel
theorem dX13_worth_35 : decode cX13_worth 35 = .ok (.iload_n 1, 1) := by decide +kernel
theorem dX13_worth_36 : decode cX13_worth 36 = .ok (.iload_n 2, 1) := by decide +kernel
theorem dX13_worth_37 : decode cX13_worth 37 = .ok (.invokevirtual 119, 3) := by decide +kernel
theorem dX13_worth_40 : decode cX13_worth 40 = .ok (.ireturn, 1) := by decide +kernel
theorem dX13_above_0 : decode cX13_above 0 = .ok (.new 17, 3) := by decide +kernel
theorem dX13_above_3 : decode cX13_above 3 = .ok (.dup, 1) := by decide +kernel
theorem dX13_above_4 : decode cX13_above 4 = .ok (.invokespecial 19, 3) := by decide +kernel
theorem dX13_above_7 : decode cX13_above 7 = .ok (.astore_n 2, 1) := by decide +kernel
theorem dX13_above_8 : decode cX13_above 8 = .ok (.iload_n 1, 1) := by decide +kernel
theorem dX13_above_9 : decode cX13_above 9 = .ok (.bipush 10, 2) := by decide +kernel
theorem dX13_above_11 : decode cX13_above 11 = .ok (.irem, 1) := by decide +kernel
theorem dX13_above_12 : decode cX13_above 12 = .ok (.istore_n 3, 1) := by decide +kernel
theorem dX13_above_13 : decode cX13_above 13 = .ok (.iload_n 3, 1) := by decide +kernel
theorem dX13_above_14 : decode cX13_above 14 = .ok (.iconst 1, 1) := by decide +kernel
theorem dX13_above_15 : decode cX13_above 15 = .ok (.isub, 1) := by decide +kernel
theorem dX13_above_16 : decode cX13_above 16 = .ok (.istore 4, 2) := by decide +kernel
theorem dX13_above_18 : decode cX13_above 18 = .ok (.iload 4, 2) := by decide +kernel
theorem dX13_above_20 : decode cX13_above 20 = .ok (.iload_n 3, 1) := by decide +kernel
theorem dX13_above_21 : decode cX13_above 21 = .ok (.iconst 1, 1) := by decide +kernel
theorem dX13_above_22 : decode cX13_above 22 = .ok (.iadd, 1) := by decide +kernel
theorem dX13_above_23 : decode cX13_above 23 = .ok (.if_icmp .gt 82, 3) := by decide +kernel
theorem dX13_above_26 : decode cX13_above 26 = .ok (.iload 4, 2) := by decide +kernel
theorem dX13_above_28 : decode cX13_above 28 = .ok (.iload_n 3, 1) := by decide +kernel
theorem dX13_above_29 : decode cX13_above 29 = .ok (.if_icmp .eq 33, 3) := by decide +kernel
theorem dX13_above_32 : decode cX13_above 32 = .ok (.aload_n 0, 1) := by decide +kernel
theorem dX13_above_33 : decode cX13_above 33 = .ok (.getfield 20, 3) := by decide +kernel
theorem dX13_above_36 : decode cX13_above 36 = .ok (.iload_n 1, 1) := by decide +kernel
theorem dX13_above_37 : decode cX13_above 37 = .ok (.invokeinterface 50 2, 5) := by decide +kernel
theorem dX13_above_42 : decode cX13_above 42 = .ok (.checkcast 37, 3) := by decide +kernel
theorem dX13_above_45 : decode cX13_above 45 = .ok (.getfield 61, 3) := by decide +kernel
theorem dX13_above_48 : decode cX13_above 48 = .ok (.ifCond .ne 18, 3) := by decide +kernel
theorem dX13_above_51 : decode cX13_above 51 = .ok (.iload 4, 2) := by decide +kernel
theorem dX13_above_53 : decode cX13_above 53 = .ok (.iconst 0, 1) := by decide +kernel
theorem dX13_above_54 : decode cX13_above 54 = .ok (.bipush 9, 2) := by decide +kernel
theorem dX13_above_56 : decode cX13_above 56 = .ok (.invokestatic 7, 3) := by decide +kernel
theorem dX13_above_59 : decode cX13_above 59 = .ok (.ifCond .eq 7, 3) := by decide +kernel
theorem dX13_above_62 : decode cX13_above 62 = .ok (.iconst 1, 1) := by decide +kernel
theorem dX13_above_63 : decode cX13_above 63 = .ok (.goto 4, 3) := by decide +kernel
theorem dX13_above_66 : decode cX13_above 66 = .ok (.iconst 0, 1) := by decide +kernel
theorem dX13_above_67 : decode cX13_above 67 = .ok (.istore 5, 2) := by decide +kernel
theorem dX13_above_69 : decode cX13_above 69 = .ok (.iload_n 1, 1) := by decide +kernel
theorem dX13_above_70 : decode cX13_above 70 = .ok (.bipush 10, 2) := by decide +kernel
theorem dX13_above_72 : decode cX13_above 72 = .ok (.if_icmp .lt 27, 3) := by decide +kernel
theorem dX13_above_75 : decode cX13_above 75 = .ok (.iload 5, 2) := by decide +kernel
theorem dX13_above_77 : decode cX13_above 77 = .ok (.ifCond .eq 22, 3) := by decide +kernel
theorem dX13_above_80 : decode cX13_above 80 = .ok (.aload_n 2, 1) := by decide +kernel
theorem dX13_above_81 : decode cX13_above 81 = .ok (.iload_n 1, 1) := by decide +kernel
theorem dX13_above_82 : decode cX13_above 82 = .ok (.bipush 10, 2) := by decide +kernel
theorem dX13_above_84 : decode cX13_above 84 = .ok (.isub, 1) := by decide +kernel
theorem dX13_above_85 : decode cX13_above 85 = .ok (.iload_n 3, 1) := by decide +kernel
theorem dX13_above_86 : decode cX13_above 86 = .ok (.isub, 1) := by decide +kernel
theorem dX13_above_87 : decode cX13_above 87 = .ok (.iload 4, 2) := by decide +kernel
theorem dX13_above_89 : decode cX13_above 89 = .ok (.iadd, 1) := by decide +kernel
theorem dX13_above_90 : decode cX13_above 90 = .ok (.invokestatic 122, 3) := by decide +kernel
theorem dX13_above_93 : decode cX13_above 93 = .ok (.invokeinterface 40 2, 5) := by decide +kernel
theorem dX13_above_98 : decode cX13_above 98 = .ok (.pop, 1) := by decide +kernel
theorem dX13_above_99 : decode cX13_above 99 = .ok (.iinc 4 1, 3) := by decide +kernel
theorem dX13_above_102 : decode cX13_above 102 = .ok (.goto (-84), 3) := by decide +kernel
theorem dX13_above_105 : decode cX13_above 105 = .ok (.aload_n 2, 1) := by decide +kernel
theorem dX13_above_106 : decode cX13_above 106 = .ok (.areturn, 1) := by decide +kernel
theorem dX13_liesFree_0 : decode cX13_liesFree 0 = .ok (.aload_n 0, 1) := by decide +kernel
theorem dX13_liesFree_1 : decode cX13_liesFree 1 = .ok (.getfield 20, 3) := by decide +kernel
theorem dX13_liesFree_4 : decode cX13_liesFree 4 = .ok (.iload_n 1, 1) := by decide +kernel
theorem dX13_liesFree_5 : decode cX13_liesFree 5 = .ok (.invokeinterface 50 2, 5) := by decide +kernel
theorem dX13_liesFree_10 : decode cX13_liesFree 10 = .ok (.checkcast 37, 3) := by decide +kernel
theorem dX13_liesFree_13 : decode cX13_liesFree 13 = .ok (.getfield 54, 3) := by decide +kernel
theorem dX13_liesFree_16 : decode cX13_liesFree 16 = .ok (.ifCond .ne 7, 3) := by decide +kernel
theorem dX13_liesFree_19 : decode cX13_liesFree 19 = .ok (.iconst 1, 1) := by decide +kernel
theorem dX13_liesFree_20 : decode cX13_liesFree 20 = .ok (.goto 4, 3) := by decide +kernel
theorem dX13_liesFree_23 : decode cX13_liesFree 23 = .ok (.iconst 0, 1) := by decide +kernel
theorem dX13_liesFree_24 : decode cX13_liesFree 24 = .ok (.istore_n 2, 1) := by decide +kernel
theorem dX13_liesFree_25 : decode cX13_liesFree 25 = .ok (.aload_n 0, 1) := by decide +kernel
theorem dX13_liesFree_26 : decode cX13_liesFree 26 = .ok (.iload_n 1, 1) := by decide +kernel
theorem dX13_liesFree_27 : decode cX13_liesFree 27 = .ok (.invokevirtual 128, 3) := by decide +kernel
theorem dX13_liesFree_30 : decode cX13_liesFree 30 = .ok (.invokeinterface 76 1, 5) := by decide +kernel
theorem dX13_liesFree_35 : decode cX13_liesFree 35 = .ok (.astore_n 3, 1) := by decide +kernel
theorem dX13_liesFree_36 : decode cX13_liesFree 36 = .ok (.aload_n 3, 1) := by decide +kernel
theorem dX13_liesFree_37 : decode cX13_liesFree 37 = .ok (.invokeinterface 80 1, 5) := by decide +kernel
theorem dX13_liesFree_42 : decode cX13_liesFree 42 = .ok (.ifCond .eq 40, 3) := by decide +kernel
theorem dX13_liesFree_45 : decode cX13_liesFree 45 = .ok (.aload_n 3, 1) := by decide +kernel
theorem dX13_liesFree_46 : decode cX13_liesFree 46 = .ok (.invokeinterface 86 1, 5) := by decide +kernel
theorem dX13_liesFree_51 : decode cX13_liesFree 51 = .ok (.checkcast 123, 3) := by decide +kernel
theorem dX13_liesFree_54 : decode cX13_liesFree 54 = .ok (.invokevirtual 132, 3) := by decide +kernel
theorem dX13_liesFree_57 : decode cX13_liesFree 57 = .ok (.istore 4, 2) := by decide +kernel
theorem dX13_liesFree_59 : decode cX13_liesFree 59 = .ok (.iload_n 2, 1) := by decide +kernel
theorem dX13_liesFree_60 : decode cX13_liesFree 60 = .ok (.aload_n 0, 1) := by decide +kernel
theorem dX13_liesFree_61 : decode cX13_liesFree 61 = .ok (.getfield 20, 3) := by decide +kernel
theorem dX13_liesFree_64 : decode cX13_liesFree 64 = .ok (.iload 4, 2) := by decide +kernel
theorem dX13_liesFree_66 : decode cX13_liesFree 66 = .ok (.invokeinterface 50 2, 5) := by decide +kernel
theorem dX13_liesFree_71 : decode cX13_liesFree 71 = .ok (.checkcast 37, 3) := by decide +kernel
theorem dX13_liesFree_74 : decode cX13_liesFree 74 = .ok (.getfield 54, 3) := by decide +kernel
theorem dX13_liesFree_77 : decode cX13_liesFree 77 = .ok (.iand, 1) := by decide +kernel
theorem dX13_liesFree_78 : decode cX13_liesFree 78 = .ok (.istore_n 2, 1) := by decide +kernel
theorem dX13_liesFree_79 : decode cX13_liesFree 79 = .ok (.goto (-43), 3) := by decide +kernel
theorem dX13_liesFree_82 : decode cX13_liesFree 82 = .ok (.iload_n 2, 1) := by decide +kernel
theorem dX13_liesFree_83 : decode cX13_liesFree 83 = .ok (.ireturn, 1) := by decide +kernel
theorem dX13_isFree_0 : decode cX13_isFree 0 = .ok (.aload_n 0, 1) := by decide +kernel
theorem dX13_isFree_1 : decode cX13_isFree 1 = .ok (.iload_n 1, 1) := by decide +kernel
theorem dX13_isFree_2 : decode cX13_isFree 2 = .ok (.invokestatic 46, 3) := by decide +kernel
theorem dX13_isFree_5 : decode cX13_isFree 5 = .ok (.ifCond .eq 7, 3) := by decide +kernel
theorem dX13_isFree_8 : decode cX13_isFree 8 = .ok (.iconst 0, 1) := by decide +kernel
theorem dX13_isFree_9 : decode cX13_isFree 9 = .ok (.goto 4, 3) := by decide +kernel
theorem dX13_isFree_12 : decode cX13_isFree 12 = .ok (.iconst 1, 1) := by decide +kernel
theorem dX13_isFree_13 : decode cX13_isFree 13 = .ok (.invokevirtual 58, 3) := by decide +kernel
theorem dX13_isFree_16 : decode cX13_isFree 16 = .ok (.ifCond .ne 15, 3) := by decide +kernel
theorem dX13_isFree_19 : decode cX13_isFree 19 = .ok (.aload_n 0, 1) := by decide +kernel
theorem dX13_isFree_20 : decode cX13_isFree 20 = .ok (.iload_n 1, 1) := by decide +kernel
theorem dX13_isFree_21 : decode cX13_isFree 21 = .ok (.invokevirtual 135, 3) := by decide +kernel
theorem dX13_isFree_24 : decode cX13_isFree 24 = .ok (.ifCond .eq 7, 3) := by decide +kernel
theorem dX13_isFree_27 : decode cX13_isFree 27 = .ok (.iconst 1, 1) := by decide +kernel
theorem dX13_isFree_28 : decode cX13_isFree 28 = .ok (.goto 4, 3) := by decide +kernel
theorem dX13_isFree_31 : decode cX13_isFree 31 = .ok (.iconst 0, 1) := by decide +kernel
theorem dX13_isFree_32 : decode cX13_isFree 32 = .ok (.ireturn, 1) := by decide +kernel
theorem dX13_isDug_0 : decode cX13_isDug 0 = .ok (.aload_n 0, 1) := by decide +kernel
theorem dX13_isDug_1 : decode cX13_isDug 1 = .ok (.iload_n 1, 1) := by decide +kernel
theorem dX13_isDug_2 : decode cX13_isDug 2 = .ok (.invokestatic 46, 3) := by decide +kernel
theorem dX13_isDug_5 : decode cX13_isDug 5 = .ok (.ifCond .eq 7, 3) := by decide +kernel
theorem dX13_isDug_8 : decode cX13_isDug 8 = .ok (.iconst 0, 1) := by decide +kernel
theorem dX13_isDug_9 : decode cX13_isDug 9 = .ok (.goto 4, 3) := by decide +kernel
theorem dX13_isDug_12 : decode cX13_isDug 12 = .ok (.iconst 1, 1) := by decide +kernel
theorem dX13_isDug_13 : decode cX13_isDug 13 = .ok (.invokevirtual 58, 3) := by decide +kernel
theorem dX13_isDug_16 : decode cX13_isDug 16 = .ok (.ifCond .ne 26, 3) := by decide +kernel
theorem dX13_isDug_19 : decode cX13_isDug 19 = .ok (.aload_n 0, 1) := by decide +kernel
theorem dX13_isDug_20 : decode cX13_isDug 20 = .ok (.getfield 20, 3) := by decide +kernel
theorem dX13_isDug_23 : decode cX13_isDug 23 = .ok (.iload_n 1, 1) := by decide +kernel
theorem dX13_isDug_24 : decode cX13_isDug 24 = .ok (.invokeinterface 50 2, 5) := by decide +kernel
theorem dX13_isDug_29 : decode cX13_isDug 29 = .ok (.checkcast 37, 3) := by decide +kernel
theorem dX13_isDug_32 : decode cX13_isDug 32 = .ok (.getfield 54, 3) := by decide +kernel
theorem dX13_isDug_35 : decode cX13_isDug 35 = .ok (.ifCond .eq 7, 3) := by decide +kernel
theorem dX13_isDug_38 : decode cX13_isDug 38 = .ok (.iconst 1, 1) := by decide +kernel
theorem dX13_isDug_39 : decode cX13_isDug 39 = .ok (.goto 4, 3) := by decide +kernel
theorem dX13_isDug_42 : decode cX13_isDug 42 = .ok (.iconst 0, 1) := by decide +kernel
theorem dX13_isDug_43 : decode cX13_isDug 43 = .ok (.ireturn, 1) := by decide +kernel
theorem dX13_pitWorth_0 : decode cX13_pitWorth 0 = .ok (.aload_n 0, 1) := by decide +kernel
theorem dX13_pitWorth_1 : decode cX13_pitWorth 1 = .ok (.iload_n 1, 1) := by decide +kernel
theorem dX13_pitWorth_2 : decode cX13_pitWorth 2 = .ok (.invokestatic 116, 3) := by decide +kernel
theorem dX13_pitWorth_5 : decode cX13_pitWorth 5 = .ok (.ifCond .eq 7, 3) := by decide +kernel
theorem dX13_pitWorth_8 : decode cX13_pitWorth 8 = .ok (.iconst 0, 1) := by decide +kernel
theorem dX13_pitWorth_9 : decode cX13_pitWorth 9 = .ok (.goto 4, 3) := by decide +kernel
theorem dX13_pitWorth_12 : decode cX13_pitWorth 12 = .ok (.iconst 1, 1) := by decide +kernel
theorem dX13_pitWorth_13 : decode cX13_pitWorth 13 = .ok (.invokevirtual 58, 3) := by decide +kernel
theorem dX13_pitWorth_16 : decode cX13_pitWorth 16 = .ok (.ifCond .eq 5, 3) := by decide +kernel
theorem dX13_pitWorth_19 : decode cX13_pitWorth 19 = .ok (.lconst 0, 1) := by decide +kernel
theorem dX13_pitWorth_20 : decode cX13_pitWorth 20 = .ok (.lreturn, 1) := by decide +kernel
theorem dX13_pitWorth_21 : decode cX13_pitWorth 21 = .ok (.new 138, 3) := by decide +kernel
theorem dX13_pitWorth_24 : decode cX13_pitWorth 24 = .ok (.dup, 1) := by decide +kernel
theorem dX13_pitWorth_25 : decode cX13_pitWorth 25 = .ok (.aload_n 0, 1) := by decide +kernel
theorem dX13_pitWorth_26 : decode cX13_pitWorth 26 = .ok (.iload_n 1, 1) := by decide +kernel
theorem dX13_pitWorth_27 : decode cX13_pitWorth 27 = .ok (.invokespecial 140, 3) := by decide +kernel
theorem dX13_pitWorth_30 : decode cX13_pitWorth 30 = .ok (.astore_n 2, 1) := by decide +kernel
theorem dX13_pitWorth_31 : decode cX13_pitWorth 31 = .ok (.lconst 0, 1) := by decide +kernel
theorem dX13_pitWorth_32 : decode cX13_pitWorth 32 = .ok (.lstore_n 3, 1) := by decide +kernel
theorem dX13_pitWorth_33 : decode cX13_pitWorth 33 = .ok (.iconst 0, 1) := by decide +kernel
theorem dX13_pitWorth_34 : decode cX13_pitWorth 34 = .ok (.istore 5, 2) := by decide +kernel
theorem dX13_pitWorth_36 : decode cX13_pitWorth 36 = .ok (.iload 5, 2) := by decide +kernel
theorem dX13_pitWorth_38 : decode cX13_pitWorth 38 = .ok (.bipush 60, 2) := by decide +kernel
theorem dX13_pitWorth_40 : decode cX13_pitWorth 40 = .ok (.if_icmp .ge 33, 3) := by decide +kernel
theorem dX13_pitWorth_43 : decode cX13_pitWorth 43 = .ok (.lload_n 3, 1) := by decide +kernel
theorem dX13_pitWorth_44 : decode cX13_pitWorth 44 = .ok (.aload_n 2, 1) := by decide +kernel
theorem dX13_pitWorth_45 : decode cX13_pitWorth 45 = .ok (.iload 5, 2) := by decide +kernel
theorem dX13_pitWorth_47 : decode cX13_pitWorth 47 = .ok (.invokevirtual 143, 3) := by decide +kernel
theorem dX13_pitWorth_50 : decode cX13_pitWorth 50 = .ok (.ifCond .eq 14, 3) := by decide +kernel
theorem dX13_pitWorth_53 : decode cX13_pitWorth 53 = .ok (.aload_n 0, 1) := by decide +kernel
theorem dX13_pitWorth_54 : decode cX13_pitWorth 54 = .ok (.iload 5, 2) := by decide +kernel
theorem dX13_pitWorth_56 : decode cX13_pitWorth 56 = .ok (.iload_n 1, 1) := by decide +kernel
theorem dX13_pitWorth_57 : decode cX13_pitWorth 57 = .ok (.invokevirtual 119, 3) := by decide +kernel
theorem dX13_pitWorth_60 : decode cX13_pitWorth 60 = .ok (.i2l, 1) := by decide +kernel
theorem dX13_pitWorth_61 : decode cX13_pitWorth 61 = .ok (.goto 4, 3) := by decide +kernel
theorem dX13_pitWorth_64 : decode cX13_pitWorth 64 = .ok (.lconst 0, 1) := by decide +kernel
theorem dX13_pitWorth_65 : decode cX13_pitWorth 65 = .ok (.ladd, 1) := by decide +kernel
theorem dX13_pitWorth_66 : decode cX13_pitWorth 66 = .ok (.lstore_n 3, 1) := by decide +kernel
theorem dX13_pitWorth_67 : decode cX13_pitWorth 67 = .ok (.iinc 5 1, 3) := by decide +kernel
theorem dX13_pitWorth_70 : decode cX13_pitWorth 70 = .ok (.goto (-34), 3) := by decide +kernel
theorem dX13_pitWorth_73 : decode cX13_pitWorth 73 = .ok (.lload_n 3, 1) := by decide +kernel
theorem dX13_pitWorth_74 : decode cX13_pitWorth 74 = .ok (.lreturn, 1) := by decide +kernel
theorem dX13_pitSize_0 : decode cX13_pitSize 0 = .ok (.aload_n 0, 1) := by decide +kernel
theorem dX13_pitSize_1 : decode cX13_pitSize 1 = .ok (.iload_n 1, 1) := by decide +kernel
theorem dX13_pitSize_2 : decode cX13_pitSize 2 = .ok (.invokestatic 116, 3) := by decide +kernel
theorem dX13_pitSize_5 : decode cX13_pitSize 5 = .ok (.ifCond .eq 7, 3) := by decide +kernel
theorem dX13_pitSize_8 : decode cX13_pitSize 8 = .ok (.iconst 0, 1) := by decide +kernel
theorem dX13_pitSize_9 : decode cX13_pitSize 9 = .ok (.goto 4, 3) := by decide +kernel
theorem dX13_pitSize_12 : decode cX13_pitSize 12 = .ok (.iconst 1, 1) := by decide +kernel
theorem dX13_pitSize_13 : decode cX13_pitSize 13 = .ok (.invokevirtual 58, 3) := by decide +kernel
theorem dX13_pitSize_16 : decode cX13_pitSize 16 = .ok (.ifCond .eq 5, 3) := by decide +kernel
theorem dX13_pitSize_19 : decode cX13_pitSize 19 = .ok (.iconst 0, 1) := by decide +kernel
theorem dX13_pitSize_20 : decode cX13_pitSize 20 = .ok (.ireturn, 1) := by decide +kernel
theorem dX13_pitSize_21 : decode cX13_pitSize 21 = .ok (.new 138, 3) := by decide +kernel
theorem dX13_pitSize_24 : decode cX13_pitSize 24 = .ok (.dup, 1) := by decide +kernel
theorem dX13_pitSize_25 : decode cX13_pitSize 25 = .ok (.aload_n 0, 1) := by decide +kernel
theorem dX13_pitSize_26 : decode cX13_pitSize 26 = .ok (.iload_n 1, 1) := by decide +kernel
theorem dX13_pitSize_27 : decode cX13_pitSize 27 = .ok (.invokespecial 140, 3) := by decide +kernel
theorem dX13_pitSize_30 : decode cX13_pitSize 30 = .ok (.astore_n 2, 1) := by decide +kernel
theorem dX13_pitSize_31 : decode cX13_pitSize 31 = .ok (.iconst 0, 1) := by decide +kernel
theorem dX13_pitSize_32 : decode cX13_pitSize 32 = .ok (.istore_n 3, 1) := by decide +kernel
theorem dX13_pitSize_33 : decode cX13_pitSize 33 = .ok (.iconst 0, 1) := by decide +kernel
theorem dX13_pitSize_34 : decode cX13_pitSize 34 = .ok (.istore 4, 2) := by decide +kernel
theorem dX13_pitSize_36 : decode cX13_pitSize 36 = .ok (.iload 4, 2) := by decide +kernel
theorem dX13_pitSize_38 : decode cX13_pitSize 38 = .ok (.bipush 60, 2) := by decide +kernel
theorem dX13_pitSize_40 : decode cX13_pitSize 40 = .ok (.if_icmp .ge 26, 3) := by decide +kernel
theorem dX13_pitSize_43 : decode cX13_pitSize 43 = .ok (.iload_n 3, 1) := by decide +kernel
theorem dX13_pitSize_44 : decode cX13_pitSize 44 = .ok (.aload_n 2, 1) := by decide +kernel
theorem dX13_pitSize_45 : decode cX13_pitSize 45 = .ok (.iload 4, 2) := by decide +kernel
theorem dX13_pitSize_47 : decode cX13_pitSize 47 = .ok (.invokevirtual 143, 3) := by decide +kernel
theorem dX13_pitSize_50 : decode cX13_pitSize 50 = .ok (.ifCond .eq 7, 3) := by decide +kernel
theorem dX13_pitSize_53 : decode cX13_pitSize 53 = .ok (.iconst 1, 1) := by decide +kernel
theorem dX13_pitSize_54 : decode cX13_pitSize 54 = .ok (.goto 4, 3) := by decide +kernel
theorem dX13_pitSize_57 : decode cX13_pitSize 57 = .ok (.iconst 0, 1) := by decide +kernel
theorem dX13_pitSize_58 : decode cX13_pitSize 58 = .ok (.iadd, 1) := by decide +kernel
theorem dX13_pitSize_59 : decode cX13_pitSize 59 = .ok (.istore_n 3, 1) := by decide +kernel
theorem dX13_pitSize_60 : decode cX13_pitSize 60 = .ok (.iinc 4 1, 3) := by decide +kernel
theorem dX13_pitSize_63 : decode cX13_pitSize 63 = .ok (.goto (-27), 3) := by decide +kernel
theorem dX13_pitSize_66 : decode cX13_pitSize 66 = .ok (.iload_n 3, 1) := by decide +kernel
theorem dX13_pitSize_67 : decode cX13_pitSize 67 = .ok (.ireturn, 1) := by decide +kernel
theorem dX13_isInPit_0 : decode cX13_isInPit 0 = .ok (.aload_n 0, 1) := by decide +kernel
theorem dX13_isInPit_1 : decode cX13_isInPit 1 = .ok (.iload_n 1, 1) := by decide +kernel
theorem dX13_isInPit_2 : decode cX13_isInPit 2 = .ok (.invokestatic 116, 3) := by decide +kernel
theorem dX13_isInPit_5 : decode cX13_isInPit 5 = .ok (.ifCond .ne 7, 3) := by decide +kernel
theorem dX13_isInPit_8 : decode cX13_isInPit 8 = .ok (.iconst 1, 1) := by decide +kernel
theorem dX13_isInPit_9 : decode cX13_isInPit 9 = .ok (.goto 15, 3) := by decide +kernel
theorem dX13_isInPit_12 : decode cX13_isInPit 12 = .ok (.iload_n 2, 1) := by decide +kernel
theorem dX13_isInPit_13 : decode cX13_isInPit 13 = .ok (.invokestatic 46, 3) := by decide +kernel
theorem dX13_isInPit_16 : decode cX13_isInPit 16 = .ok (.ifCond .ne 7, 3) := by decide +kernel
theorem dX13_isInPit_19 : decode cX13_isInPit 19 = .ok (.iconst 2, 1) := by decide +kernel
theorem dX13_isInPit_20 : decode cX13_isInPit 20 = .ok (.goto 4, 3) := by decide +kernel
theorem dX13_isInPit_23 : decode cX13_isInPit 23 = .ok (.iconst 0, 1) := by decide +kernel
theorem dX13_isInPit_24 : decode cX13_isInPit 24 = .ok (.invokevirtual 58, 3) := by decide +kernel
theorem dX13_isInPit_27 : decode cX13_isInPit 27 = .ok (.ifCond .ne 23, 3) := by decide +kernel
theorem dX13_isInPit_30 : decode cX13_isInPit 30 = .ok (.new 138, 3) := by decide +kernel
theorem dX13_isInPit_33 : decode cX13_isInPit 33 = .ok (.dup, 1) := by decide +kernel
theorem dX13_isInPit_34 : decode cX13_isInPit 34 = .ok (.aload_n 0, 1) := by decide +kernel
theorem dX13_isInPit_35 : decode cX13_isInPit 35 = .ok (.iload_n 1, 1) := by decide +kernel
theorem dX13_isInPit_36 : decode cX13_isInPit 36 = .ok (.invokespecial 140, 3) := by decide +kernel
theorem dX13_isInPit_39 : decode cX13_isInPit 39 = .ok (.iload_n 2, 1) := by decide +kernel
theorem dX13_isInPit_40 : decode cX13_isInPit 40 = .ok (.invokevirtual 143, 3) := by decide +kernel
theorem dX13_isInPit_43 : decode cX13_isInPit 43 = .ok (.ifCond .eq 7, 3) := by decide +kernel
theorem dX13_isInPit_46 : decode cX13_isInPit 46 = .ok (.iconst 1, 1) := by decide +kernel
theorem dX13_isInPit_47 : decode cX13_isInPit 47 = .ok (.goto 4, 3) := by decide +kernel
theorem dX13_isInPit_50 : decode cX13_isInPit 50 = .ok (.iconst 0, 1) := by decide +kernel
theorem dX13_isInPit_51 : decode cX13_isInPit 51 = .ok (.ireturn, 1) := by decide +kernel
theorem dX13_worthWith_0 : decode cX13_worthWith 0 = .ok (.aload_n 0, 1) := by decide +kernel
theorem dX13_worthWith_1 : decode cX13_worthWith 1 = .ok (.iload_n 1, 1) := by decide +kernel
theorem dX13_worthWith_2 : decode cX13_worthWith 2 = .ok (.invokestatic 116, 3) := by decide +kernel
theorem dX13_worthWith_5 : decode cX13_worthWith 5 = .ok (.ifCond .ne 7, 3) := by decide +kernel
theorem dX13_worthWith_8 : decode cX13_worthWith 8 = .ok (.iconst 1, 1) := by decide +kernel
theorem dX13_worthWith_9 : decode cX13_worthWith 9 = .ok (.goto 38, 3) := by decide +kernel
theorem dX13_worthWith_12 : decode cX13_worthWith 12 = .ok (.iload_n 2, 1) := by decide +kernel
theorem dX13_worthWith_13 : decode cX13_worthWith 13 = .ok (.invokestatic 46, 3) := by decide +kernel
theorem dX13_worthWith_16 : decode cX13_worthWith 16 = .ok (.ifCond .ne 7, 3) := by decide +kernel
theorem dX13_worthWith_19 : decode cX13_worthWith 19 = .ok (.iconst 2, 1) := by decide +kernel
theorem dX13_worthWith_20 : decode cX13_worthWith 20 = .ok (.goto 27, 3) := by decide +kernel
theorem dX13_worthWith_23 : decode cX13_worthWith 23 = .ok (.aload_n 0, 1) := by decide +kernel
theorem dX13_worthWith_24 : decode cX13_worthWith 24 = .ok (.getfield 20, 3) := by decide +kernel
theorem dX13_worthWith_27 : decode cX13_worthWith 27 = .ok (.iload_n 2, 1) := by decide +kernel
theorem dX13_worthWith_28 : decode cX13_worthWith 28 = .ok (.invokeinterface 50 2, 5) := by decide +kernel
theorem dX13_worthWith_33 : decode cX13_worthWith 33 = .ok (.checkcast 37, 3) := by decide +kernel
theorem dX13_worthWith_36 : decode cX13_worthWith 36 = .ok (.getfield 54, 3) := by decide +kernel
theorem dX13_worthWith_39 : decode cX13_worthWith 39 = .ok (.ifCond .eq 7, 3) := by decide +kernel
theorem dX13_worthWith_42 : decode cX13_worthWith 42 = .ok (.iconst 3, 1) := by decide +kernel
theorem dX13_worthWith_43 : decode cX13_worthWith 43 = .ok (.goto 4, 3) := by decide +kernel
theorem dX13_worthWith_46 : decode cX13_worthWith 46 = .ok (.iconst 0, 1) := by decide +kernel
theorem dX13_worthWith_47 : decode cX13_worthWith 47 = .ok (.invokevirtual 58, 3) := by decide +kernel
theorem dX13_worthWith_50 : decode cX13_worthWith 50 = .ok (.ifCond .eq 5, 3) := by decide +kernel
theorem dX13_worthWith_53 : decode cX13_worthWith 53 = .ok (.lconst 0, 1) := by decide +kernel
theorem dX13_worthWith_54 : decode cX13_worthWith 54 = .ok (.lreturn, 1) := by decide +kernel
theorem dX13_worthWith_55 : decode cX13_worthWith 55 = .ok (.bipush 60, 2) := by decide +kernel
theorem dX13_worthWith_57 : decode cX13_worthWith 57 = .ok (.newarray .boolean, 2) := by decide +kernel
theorem dX13_worthWith_59 : decode cX13_worthWith 59 = .ok (.astore_n 3, 1) := by decide +kernel
theorem dX13_worthWith_60 : decode cX13_worthWith 60 = .ok (.aload_n 3, 1) := by decide +kernel
theorem dX13_worthWith_61 : decode cX13_worthWith 61 = .ok (.iload_n 2, 1) := by decide +kernel
theorem dX13_worthWith_62 : decode cX13_worthWith 62 = .ok (.iconst 1, 1) := by decide +kernel
theorem dX13_worthWith_63 : decode cX13_worthWith 63 = .ok (.bastore, 1) := by decide +kernel
theorem dX13_worthWith_64 : decode cX13_worthWith 64 = .ok (.lconst 0, 1) := by decide +kernel
theorem dX13_worthWith_65 : decode cX13_worthWith 65 = .ok (.lstore 4, 2) := by decide +kernel
theorem dX13_worthWith_67 : decode cX13_worthWith 67 = .ok (.iload_n 2, 1) := by decide +kernel
theorem dX13_worthWith_68 : decode cX13_worthWith 68 = .ok (.istore 6, 2) := by decide +kernel
theorem dX13_worthWith_70 : decode cX13_worthWith 70 = .ok (.iload 6, 2) := by decide +kernel
theorem dX13_worthWith_72 : decode cX13_worthWith 72 = .ok (.ifCond .lt 98, 3) := by decide +kernel
theorem dX13_worthWith_75 : decode cX13_worthWith 75 = .ok (.aload_n 3, 1) := by decide +kernel
theorem dX13_worthWith_76 : decode cX13_worthWith 76 = .ok (.iload 6, 2) := by decide +kernel
theorem dX13_worthWith_78 : decode cX13_worthWith 78 = .ok (.baload, 1) := by decide +kernel
theorem dX13_worthWith_79 : decode cX13_worthWith 79 = .ok (.ifCond .eq 85, 3) := by decide +kernel
theorem dX13_worthWith_82 : decode cX13_worthWith 82 = .ok (.aload_n 0, 1) := by decide +kernel
theorem dX13_worthWith_83 : decode cX13_worthWith 83 = .ok (.getfield 20, 3) := by decide +kernel
theorem dX13_worthWith_86 : decode cX13_worthWith 86 = .ok (.iload 6, 2) := by decide +kernel
theorem dX13_worthWith_88 : decode cX13_worthWith 88 = .ok (.invokeinterface 50 2, 5) := by decide +kernel
theorem dX13_worthWith_93 : decode cX13_worthWith 93 = .ok (.checkcast 37, 3) := by decide +kernel
theorem dX13_worthWith_96 : decode cX13_worthWith 96 = .ok (.getfield 54, 3) := by decide +kernel
theorem dX13_worthWith_99 : decode cX13_worthWith 99 = .ok (.ifCond .eq 6, 3) := by decide +kernel
theorem dX13_worthWith_102 : decode cX13_worthWith 102 = .ok (.goto 62, 3) := by decide +kernel
theorem dX13_worthWith_105 : decode cX13_worthWith 105 = .ok (.lload 4, 2) := by decide +kernel
theorem dX13_worthWith_107 : decode cX13_worthWith 107 = .ok (.aload_n 0, 1) := by decide +kernel
theorem dX13_worthWith_108 : decode cX13_worthWith 108 = .ok (.iload 6, 2) := by decide +kernel
theorem dX13_worthWith_110 : decode cX13_worthWith 110 = .ok (.iload_n 1, 1) := by decide +kernel
theorem dX13_worthWith_111 : decode cX13_worthWith 111 = .ok (.invokevirtual 119, 3) := by decide +kernel
theorem dX13_worthWith_114 : decode cX13_worthWith 114 = .ok (.i2l, 1) := by decide +kernel
theorem dX13_worthWith_115 : decode cX13_worthWith 115 = .ok (.ladd, 1) := by decide +kernel
theorem dX13_worthWith_116 : decode cX13_worthWith 116 = .ok (.lstore 4, 2) := by decide +kernel
theorem dX13_worthWith_118 : decode cX13_worthWith 118 = .ok (.aload_n 0, 1) := by decide +kernel
theorem dX13_worthWith_119 : decode cX13_worthWith 119 = .ok (.iload 6, 2) := by decide +kernel
theorem dX13_worthWith_121 : decode cX13_worthWith 121 = .ok (.invokevirtual 128, 3) := by decide +kernel
theorem dX13_worthWith_124 : decode cX13_worthWith 124 = .ok (.invokeinterface 76 1, 5) := by decide +kernel
theorem dX13_worthWith_129 : decode cX13_worthWith 129 = .ok (.astore 7, 2) := by decide +kernel
theorem dX13_worthWith_131 : decode cX13_worthWith 131 = .ok (.aload 7, 2) := by decide +kernel
theorem dX13_worthWith_133 : decode cX13_worthWith 133 = .ok (.invokeinterface 80 1, 5) := by decide +kernel
theorem dX13_worthWith_138 : decode cX13_worthWith 138 = .ok (.ifCond .eq 26, 3) := by decide +kernel
theorem dX13_worthWith_141 : decode cX13_worthWith 141 = .ok (.aload 7, 2) := by decide +kernel
theorem dX13_worthWith_143 : decode cX13_worthWith 143 = .ok (.invokeinterface 86 1, 5) := by decide +kernel
theorem dX13_worthWith_148 : decode cX13_worthWith 148 = .ok (.checkcast 123, 3) := by decide +kernel
theorem dX13_worthWith_151 : decode cX13_worthWith 151 = .ok (.invokevirtual 132, 3) := by decide +kernel
theorem dX13_worthWith_154 : decode cX13_worthWith 154 = .ok (.istore 8, 2) := by decide +kernel
theorem dX13_worthWith_156 : decode cX13_worthWith 156 = .ok (.aload_n 3, 1) := by decide +kernel
theorem dX13_worthWith_157 : decode cX13_worthWith 157 = .ok (.iload 8, 2) := by decide +kernel
theorem dX13_worthWith_159 : decode cX13_worthWith 159 = .ok (.iconst 1, 1) := by decide +kernel
theorem dX13_worthWith_160 : decode cX13_worthWith 160 = .ok (.bastore, 1) := by decide +kernel
theorem dX13_worthWith_161 : decode cX13_worthWith 161 = .ok (.goto (-30), 3) := by decide +kernel
theorem dX13_worthWith_164 : decode cX13_worthWith 164 = .ok (.iinc 6 (-1), 3) := by decide +kernel
theorem dX13_worthWith_167 : decode cX13_worthWith 167 = .ok (.goto (-97), 3) := by decide +kernel
theorem dX13_worthWith_170 : decode cX13_worthWith 170 = .ok (.lload 4, 2) := by decide +kernel
theorem dX13_worthWith_172 : decode cX13_worthWith 172 = .ok (.lreturn, 1) := by decide +kernel
theorem dX13_phase_0 : decode cX13_phase 0 = .ok (.iload_n 1, 1) := by decide +kernel
theorem dX13_phase_1 : decode cX13_phase 1 = .ok (.invokestatic 116, 3) := by decide +kernel
theorem dX13_phase_4 : decode cX13_phase 4 = .ok (.ifCond .eq 49, 3) := by decide +kernel
theorem dX13_phase_7 : decode cX13_phase 7 = .ok (.aload_n 0, 1) := by decide +kernel
theorem dX13_phase_8 : decode cX13_phase 8 = .ok (.getfield 27, 3) := by decide +kernel
theorem dX13_phase_11 : decode cX13_phase 11 = .ok (.invokeinterface 96 1, 5) := by decide +kernel
theorem dX13_phase_16 : decode cX13_phase 16 = .ok (.ifCond .ne 33, 3) := by decide +kernel
theorem dX13_phase_19 : decode cX13_phase 19 = .ok (.iload_n 1, 1) := by decide +kernel
theorem dX13_phase_20 : decode cX13_phase 20 = .ok (.aload_n 0, 1) := by decide +kernel
theorem dX13_phase_21 : decode cX13_phase 21 = .ok (.getfield 27, 3) := by decide +kernel
theorem dX13_phase_24 : decode cX13_phase 24 = .ok (.aload_n 0, 1) := by decide +kernel
theorem dX13_phase_25 : decode cX13_phase 25 = .ok (.getfield 27, 3) := by decide +kernel
theorem dX13_phase_28 : decode cX13_phase 28 = .ok (.invokeinterface 64 1, 5) := by decide +kernel
theorem dX13_phase_33 : decode cX13_phase 33 = .ok (.iconst 1, 1) := by decide +kernel
theorem dX13_phase_34 : decode cX13_phase 34 = .ok (.isub, 1) := by decide +kernel
theorem dX13_phase_35 : decode cX13_phase 35 = .ok (.invokeinterface 50 2, 5) := by decide +kernel
theorem dX13_phase_40 : decode cX13_phase 40 = .ok (.checkcast 123, 3) := by decide +kernel
theorem dX13_phase_43 : decode cX13_phase 43 = .ok (.invokevirtual 132, 3) := by decide +kernel
theorem dX13_phase_46 : decode cX13_phase 46 = .ok (.if_icmp .le 7, 3) := by decide +kernel
theorem dX13_phase_49 : decode cX13_phase 49 = .ok (.iconst 1, 1) := by decide +kernel
theorem dX13_phase_50 : decode cX13_phase 50 = .ok (.goto 4, 3) := by decide +kernel
theorem dX13_phase_53 : decode cX13_phase 53 = .ok (.iconst 0, 1) := by decide +kernel
theorem dX13_phase_54 : decode cX13_phase 54 = .ok (.istore_n 2, 1) := by decide +kernel
theorem dX13_phase_55 : decode cX13_phase 55 = .ok (.aload_n 0, 1) := by decide +kernel
theorem dX13_phase_56 : decode cX13_phase 56 = .ok (.iload_n 2, 1) := by decide +kernel
theorem dX13_phase_57 : decode cX13_phase 57 = .ok (.ifCond .ne 7, 3) := by decide +kernel
theorem dX13_phase_60 : decode cX13_phase 60 = .ok (.iconst 1, 1) := by decide +kernel
theorem dX13_phase_61 : decode cX13_phase 61 = .ok (.goto 21, 3) := by decide +kernel
theorem dX13_phase_64 : decode cX13_phase 64 = .ok (.aload_n 0, 1) := by decide +kernel
theorem dX13_phase_65 : decode cX13_phase 65 = .ok (.getfield 27, 3) := by decide +kernel
theorem dX13_phase_68 : decode cX13_phase 68 = .ok (.invokeinterface 64 1, 5) := by decide +kernel
theorem dX13_phase_73 : decode cX13_phase 73 = .ok (.iconst 4, 1) := by decide +kernel
theorem dX13_phase_74 : decode cX13_phase 74 = .ok (.if_icmp .ne 7, 3) := by decide +kernel
theorem dX13_phase_77 : decode cX13_phase 77 = .ok (.iconst 2, 1) := by decide +kernel
theorem dX13_phase_78 : decode cX13_phase 78 = .ok (.goto 4, 3) := by decide +kernel
theorem dX13_phase_81 : decode cX13_phase 81 = .ok (.iconst 0, 1) := by decide +kernel
theorem dX13_phase_82 : decode cX13_phase 82 = .ok (.invokevirtual 58, 3) := by decide +kernel
theorem dX13_phase_85 : decode cX13_phase 85 = .ok (.ifCond .eq 5, 3) := by decide +kernel
theorem dX13_phase_88 : decode cX13_phase 88 = .ok (.iconst 0, 1) := by decide +kernel
theorem dX13_phase_89 : decode cX13_phase 89 = .ok (.ireturn, 1) := by decide +kernel
theorem dX13_phase_90 : decode cX13_phase 90 = .ok (.aload_n 0, 1) := by decide +kernel
theorem dX13_phase_91 : decode cX13_phase 91 = .ok (.getfield 27, 3) := by decide +kernel
theorem dX13_phase_94 : decode cX13_phase 94 = .ok (.iload_n 1, 1) := by decide +kernel
theorem dX13_phase_95 : decode cX13_phase 95 = .ok (.invokestatic 122, 3) := by decide +kernel
theorem dX13_phase_98 : decode cX13_phase 98 = .ok (.invokeinterface 40 2, 5) := by decide +kernel
theorem dX13_phase_103 : decode cX13_phase 103 = .ok (.pop, 1) := by decide +kernel
theorem dX13_phase_104 : decode cX13_phase 104 = .ok (.aload_n 0, 1) := by decide +kernel
theorem dX13_phase_105 : decode cX13_phase 105 = .ok (.getfield 27, 3) := by decide +kernel
theorem dX13_phase_108 : decode cX13_phase 108 = .ok (.invokeinterface 64 1, 5) := by decide +kernel
theorem dX13_phase_113 : decode cX13_phase 113 = .ok (.ireturn, 1) := by decide +kernel
theorem dX13_clearPhases_0 : decode cX13_clearPhases 0 = .ok (.aload_n 0, 1) := by decide +kernel
theorem dX13_clearPhases_1 : decode cX13_clearPhases 1 = .ok (.iconst 0, 1) := by decide +kernel
theorem dX13_clearPhases_2 : decode cX13_clearPhases 2 = .ok (.putfield 1, 3) := by decide +kernel
theorem dX13_clearPhases_5 : decode cX13_clearPhases 5 = .ok (.aload_n 0, 1) := by decide +kernel
theorem dX13_clearPhases_6 : decode cX13_clearPhases 6 = .ok (.getfield 27, 3) := by decide +kernel
theorem dX13_clearPhases_9 : decode cX13_clearPhases 9 = .ok (.invokeinterface 64 1, 5) := by decide +kernel
theorem dX13_clearPhases_14 : decode cX13_clearPhases 14 = .ok (.istore_n 1, 1) := by decide +kernel
theorem dX13_clearPhases_15 : decode cX13_clearPhases 15 = .ok (.aload_n 0, 1) := by decide +kernel
theorem dX13_clearPhases_16 : decode cX13_clearPhases 16 = .ok (.getfield 27, 3) := by decide +kernel
theorem dX13_clearPhases_19 : decode cX13_clearPhases 19 = .ok (.invokeinterface 146 1, 5) := by decide +kernel
theorem dX13_clearPhases_24 : decode cX13_clearPhases 24 = .ok (.iload_n 1, 1) := by decide +kernel
theorem dX13_clearPhases_25 : decode cX13_clearPhases 25 = .ok (.ireturn, 1) := by decide +kernel
theorem dX13_phasesNow_0 : decode cX13_phasesNow 0 = .ok (.bipush 60, 2) := by decide +kernel
theorem dX13_phasesNow_2 : decode cX13_phasesNow 2 = .ok (.newarray .int, 2) := by decide +kernel
theorem dX13_phasesNow_4 : decode cX13_phasesNow 4 = .ok (.astore_n 1, 1) := by decide +kernel
theorem dX13_phasesNow_5 : decode cX13_phasesNow 5 = .ok (.aload_n 1, 1) := by decide +kernel
theorem dX13_phasesNow_6 : decode cX13_phasesNow 6 = .ok (.iconst (-1), 1) := by decide +kernel
theorem dX13_phasesNow_7 : decode cX13_phasesNow 7 = .ok (.invokestatic 149, 3) := by decide +kernel
theorem dX13_phasesNow_10 : decode cX13_phasesNow 10 = .ok (.aload_n 0, 1) := by decide +kernel
theorem dX13_phasesNow_11 : decode cX13_phasesNow 11 = .ok (.getfield 27, 3) := by decide +kernel
theorem dX13_phasesNow_14 : decode cX13_phasesNow 14 = .ok (.invokeinterface 64 1, 5) := by decide +kernel
theorem dX13_phasesNow_19 : decode cX13_phasesNow 19 = .ok (.iconst 1, 1) := by decide +kernel
theorem dX13_phasesNow_20 : decode cX13_phasesNow 20 = .ok (.isub, 1) := by decide +kernel
theorem dX13_phasesNow_21 : decode cX13_phasesNow 21 = .ok (.istore_n 2, 1) := by decide +kernel
theorem dX13_phasesNow_22 : decode cX13_phasesNow 22 = .ok (.iload_n 2, 1) := by decide +kernel
theorem dX13_phasesNow_23 : decode cX13_phasesNow 23 = .ok (.ifCond .lt 71, 3) := by decide +kernel
theorem dX13_phasesNow_26 : decode cX13_phasesNow 26 = .ok (.new 138, 3) := by decide +kernel
theorem dX13_phasesNow_29 : decode cX13_phasesNow 29 = .ok (.dup, 1) := by decide +kernel
theorem dX13_phasesNow_30 : decode cX13_phasesNow 30 = .ok (.aload_n 0, 1) := by decide +kernel
theorem dX13_phasesNow_31 : decode cX13_phasesNow 31 = .ok (.aload_n 0, 1) := by decide +kernel
theorem dX13_phasesNow_32 : decode cX13_phasesNow 32 = .ok (.getfield 27, 3) := by decide +kernel
theorem dX13_phasesNow_35 : decode cX13_phasesNow 35 = .ok (.iload_n 2, 1) := by decide +kernel
theorem dX13_phasesNow_36 : decode cX13_phasesNow 36 = .ok (.invokeinterface 50 2, 5) := by decide +kernel
theorem dX13_phasesNow_41 : decode cX13_phasesNow 41 = .ok (.checkcast 123, 3) := by decide +kernel
theorem dX13_phasesNow_44 : decode cX13_phasesNow 44 = .ok (.invokevirtual 132, 3) := by decide +kernel
theorem dX13_phasesNow_47 : decode cX13_phasesNow 47 = .ok (.invokespecial 140, 3) := by decide +kernel
theorem dX13_phasesNow_50 : decode cX13_phasesNow 50 = .ok (.astore_n 3, 1) := by decide +kernel
theorem dX13_phasesNow_51 : decode cX13_phasesNow 51 = .ok (.iconst 0, 1) := by decide +kernel
theorem dX13_phasesNow_52 : decode cX13_phasesNow 52 = .ok (.istore 4, 2) := by decide +kernel
theorem dX13_phasesNow_54 : decode cX13_phasesNow 54 = .ok (.iload 4, 2) := by decide +kernel
theorem dX13_phasesNow_56 : decode cX13_phasesNow 56 = .ok (.bipush 60, 2) := by decide +kernel
theorem dX13_phasesNow_58 : decode cX13_phasesNow 58 = .ok (.if_icmp .ge 30, 3) := by decide +kernel
theorem dX13_phasesNow_61 : decode cX13_phasesNow 61 = .ok (.aload_n 1, 1) := by decide +kernel
theorem dX13_phasesNow_62 : decode cX13_phasesNow 62 = .ok (.iload 4, 2) := by decide +kernel
theorem dX13_phasesNow_64 : decode cX13_phasesNow 64 = .ok (.aload_n 3, 1) := by decide +kernel
theorem dX13_phasesNow_65 : decode cX13_phasesNow 65 = .ok (.iload 4, 2) := by decide +kernel
theorem dX13_phasesNow_67 : decode cX13_phasesNow 67 = .ok (.invokevirtual 143, 3) := by decide +kernel
theorem dX13_phasesNow_70 : decode cX13_phasesNow 70 = .ok (.ifCond .eq 7, 3) := by decide +kernel
theorem dX13_phasesNow_73 : decode cX13_phasesNow 73 = .ok (.iload_n 2, 1) := by decide +kernel
theorem dX13_phasesNow_74 : decode cX13_phasesNow 74 = .ok (.goto 7, 3) := by decide +kernel
theorem dX13_phasesNow_77 : decode cX13_phasesNow 77 = .ok (.aload_n 1, 1) := by decide +kernel
theorem dX13_phasesNow_78 : decode cX13_phasesNow 78 = .ok (.iload 4, 2) := by decide +kernel
theorem dX13_phasesNow_80 : decode cX13_phasesNow 80 = .ok (.iaload, 1) := by decide +kernel
theorem dX13_phasesNow_81 : decode cX13_phasesNow 81 = .ok (.iastore, 1) := by decide +kernel
theorem dX13_phasesNow_82 : decode cX13_phasesNow 82 = .ok (.iinc 4 1, 3) := by decide +kernel
theorem dX13_phasesNow_85 : decode cX13_phasesNow 85 = .ok (.goto (-31), 3) := by decide +kernel
theorem dX13_phasesNow_88 : decode cX13_phasesNow 88 = .ok (.iinc 2 (-1), 3) := by decide +kernel
theorem dX13_phasesNow_91 : decode cX13_phasesNow 91 = .ok (.goto (-69), 3) := by decide +kernel
theorem dX13_phasesNow_94 : decode cX13_phasesNow 94 = .ok (.aload_n 1, 1) := by decide +kernel
theorem dX13_phasesNow_95 : decode cX13_phasesNow 95 = .ok (.areturn, 1) := by decide +kernel
theorem dX13_phaseOf_0 : decode cX13_phaseOf 0 = .ok (.aload_n 0, 1) := by decide +kernel
theorem dX13_phaseOf_1 : decode cX13_phaseOf 1 = .ok (.iload_n 1, 1) := by decide +kernel
theorem dX13_phaseOf_2 : decode cX13_phaseOf 2 = .ok (.invokestatic 46, 3) := by decide +kernel
theorem dX13_phaseOf_5 : decode cX13_phaseOf 5 = .ok (.ifCond .eq 7, 3) := by decide +kernel
theorem dX13_phaseOf_8 : decode cX13_phaseOf 8 = .ok (.iconst 0, 1) := by decide +kernel
theorem dX13_phaseOf_9 : decode cX13_phaseOf 9 = .ok (.goto 4, 3) := by decide +kernel
theorem dX13_phaseOf_12 : decode cX13_phaseOf 12 = .ok (.iconst 1, 1) := by decide +kernel
theorem dX13_phaseOf_13 : decode cX13_phaseOf 13 = .ok (.invokevirtual 58, 3) := by decide +kernel
theorem dX13_phaseOf_16 : decode cX13_phaseOf 16 = .ok (.ifCond .eq 7, 3) := by decide +kernel
theorem dX13_phaseOf_19 : decode cX13_phaseOf 19 = .ok (.iconst 0, 1) := by decide +kernel
theorem dX13_phaseOf_20 : decode cX13_phaseOf 20 = .ok (.goto 9, 3) := by decide +kernel
theorem dX13_phaseOf_23 : decode cX13_phaseOf 23 = .ok (.aload_n 0, 1) := by decide +kernel
theorem dX13_phaseOf_24 : decode cX13_phaseOf 24 = .ok (.invokevirtual 155, 3) := by decide +kernel
theorem dX13_phaseOf_27 : decode cX13_phaseOf 27 = .ok (.iload_n 1, 1) := by decide +kernel
theorem dX13_phaseOf_28 : decode cX13_phaseOf 28 = .ok (.iaload, 1) := by decide +kernel
theorem dX13_phaseOf_29 : decode cX13_phaseOf 29 = .ok (.ireturn, 1) := by decide +kernel
theorem dX13_set_0 : decode cX13_set 0 = .ok (.ldc 159, 2) := by decide +kernel
theorem dX13_set_2 : decode cX13_set 2 = .ok (.iload_n 1, 1) := by decide +kernel
theorem dX13_set_3 : decode cX13_set 3 = .ok (.invokevirtual 161, 3) := by decide +kernel
theorem dX13_set_6 : decode cX13_set 6 = .ok (.istore_n 3, 1) := by decide +kernel
theorem dX13_set_7 : decode cX13_set 7 = .ok (.aload_n 0, 1) := by decide +kernel
theorem dX13_set_8 : decode cX13_set 8 = .ok (.iload_n 3, 1) := by decide +kernel
theorem dX13_set_9 : decode cX13_set 9 = .ok (.ifCond .lt 16, 3) := by decide +kernel
theorem dX13_set_12 : decode cX13_set 12 = .ok (.iload_n 2, 1) := by decide +kernel
theorem dX13_set_13 : decode cX13_set 13 = .ok (.iconst 0, 1) := by decide +kernel
theorem dX13_set_14 : decode cX13_set 14 = .ok (.getstatic 166, 3) := by decide +kernel
theorem dX13_set_17 : decode cX13_set 17 = .ok (.iload_n 3, 1) := by decide +kernel
theorem dX13_set_18 : decode cX13_set 18 = .ok (.iaload, 1) := by decide +kernel
theorem dX13_set_19 : decode cX13_set 19 = .ok (.invokestatic 7, 3) := by decide +kernel
theorem dX13_set_22 : decode cX13_set 22 = .ok (.ifCond .ne 7, 3) := by decide +kernel
theorem dX13_set_25 : decode cX13_set 25 = .ok (.iconst 1, 1) := by decide +kernel
theorem dX13_set_26 : decode cX13_set 26 = .ok (.goto 4, 3) := by decide +kernel
theorem dX13_set_29 : decode cX13_set 29 = .ok (.iconst 0, 1) := by decide +kernel
theorem dX13_set_30 : decode cX13_set 30 = .ok (.invokevirtual 58, 3) := by decide +kernel
theorem dX13_set_33 : decode cX13_set 33 = .ok (.ifCond .eq 5, 3) := by decide +kernel
theorem dX13_set_36 : decode cX13_set 36 = .ok (.iconst 0, 1) := by decide +kernel
theorem dX13_set_37 : decode cX13_set 37 = .ok (.ireturn, 1) := by decide +kernel
theorem dX13_set_38 : decode cX13_set 38 = .ok (.aload_n 0, 1) := by decide +kernel
theorem dX13_set_39 : decode cX13_set 39 = .ok (.getfield 33, 3) := by decide +kernel
theorem dX13_set_42 : decode cX13_set 42 = .ok (.iload_n 3, 1) := by decide +kernel
theorem dX13_set_43 : decode cX13_set 43 = .ok (.iaload, 1) := by decide +kernel
theorem dX13_set_44 : decode cX13_set 44 = .ok (.istore 4, 2) := by decide +kernel
theorem dX13_set_46 : decode cX13_set 46 = .ok (.aload_n 0, 1) := by decide +kernel
theorem dX13_set_47 : decode cX13_set 47 = .ok (.getfield 33, 3) := by decide +kernel
theorem dX13_set_50 : decode cX13_set 50 = .ok (.iload_n 3, 1) := by decide +kernel
theorem dX13_set_51 : decode cX13_set 51 = .ok (.iload_n 2, 1) := by decide +kernel
theorem dX13_set_52 : decode cX13_set 52 = .ok (.iastore, 1) := by decide +kernel
theorem dX13_set_53 : decode cX13_set 53 = .ok (.iload 4, 2) := by decide +kernel
theorem dX13_set_55 : decode cX13_set 55 = .ok (.ireturn, 1) := by decide +kernel
theorem dX13_toldOf_0 : decode cX13_toldOf 0 = .ok (.aload_n 0, 1) := by decide +kernel
theorem dX13_toldOf_1 : decode cX13_toldOf 1 = .ok (.getfield 33, 3) := by decide +kernel
theorem dX13_toldOf_4 : decode cX13_toldOf 4 = .ok (.ldc 159, 2) := by decide +kernel
theorem dX13_toldOf_6 : decode cX13_toldOf 6 = .ok (.iload_n 1, 1) := by decide +kernel
theorem dX13_toldOf_7 : decode cX13_toldOf 7 = .ok (.invokevirtual 161, 3) := by decide +kernel
theorem dX13_toldOf_10 : decode cX13_toldOf 10 = .ok (.iaload, 1) := by decide +kernel
theorem dX13_toldOf_11 : decode cX13_toldOf 11 = .ok (.ireturn, 1) := by decide +kernel
theorem dX13_mix_0 : decode cX13_mix 0 = .ok (.aload_n 0, 1) := by decide +kernel
theorem dX13_mix_1 : decode cX13_mix 1 = .ok (.iconst 0, 1) := by decide +kernel
theorem dX13_mix_2 : decode cX13_mix 2 = .ok (.putfield 1, 3) := by decide +kernel
theorem dX13_mix_5 : decode cX13_mix 5 = .ok (.aload_n 0, 1) := by decide +kernel
theorem dX13_mix_6 : decode cX13_mix 6 = .ok (.getfield 169, 3) := by decide +kernel
theorem dX13_mix_9 : decode cX13_mix 9 = .ok (.istore_n 2, 1) := by decide +kernel
theorem dX13_mix_10 : decode cX13_mix 10 = .ok (.aload_n 0, 1) := by decide +kernel
theorem dX13_mix_11 : decode cX13_mix 11 = .ok (.iload_n 1, 1) := by decide +kernel
theorem dX13_mix_12 : decode cX13_mix 12 = .ok (.putfield 169, 3) := by decide +kernel
theorem dX13_mix_15 : decode cX13_mix 15 = .ok (.iload_n 2, 1) := by decide +kernel
theorem dX13_mix_16 : decode cX13_mix 16 = .ok (.ireturn, 1) := by decide +kernel
theorem dX13_flooded_0 : decode cX13_flooded 0 = .ok (.iconst (-1), 1) := by decide +kernel
theorem dX13_flooded_1 : decode cX13_flooded 1 = .ok (.istore_n 1, 1) := by decide +kernel
theorem dX13_flooded_2 : decode cX13_flooded 2 = .ok (.iconst 0, 1) := by decide +kernel
theorem dX13_flooded_3 : decode cX13_flooded 3 = .ok (.istore_n 2, 1) := by decide +kernel
theorem dX13_flooded_4 : decode cX13_flooded 4 = .ok (.iload_n 2, 1) := by decide +kernel
theorem dX13_flooded_5 : decode cX13_flooded 5 = .ok (.bipush 60, 2) := by decide +kernel
theorem dX13_flooded_7 : decode cX13_flooded 7 = .ok (.if_icmp .ge 37, 3) := by decide +kernel
theorem dX13_flooded_10 : decode cX13_flooded 10 = .ok (.aload_n 0, 1) := by decide +kernel
theorem dX13_flooded_11 : decode cX13_flooded 11 = .ok (.getfield 20, 3) := by decide +kernel
theorem dX13_flooded_14 : decode cX13_flooded 14 = .ok (.iload_n 2, 1) := by decide +kernel
theorem dX13_flooded_15 : decode cX13_flooded 15 = .ok (.invokeinterface 50 2, 5) := by decide +kernel
theorem dX13_flooded_20 : decode cX13_flooded 20 = .ok (.checkcast 37, 3) := by decide +kernel
theorem dX13_flooded_23 : decode cX13_flooded 23 = .ok (.getfield 54, 3) := by decide +kernel
theorem dX13_flooded_26 : decode cX13_flooded 26 = .ok (.ifCond .eq 10, 3) := by decide +kernel
theorem dX13_flooded_29 : decode cX13_flooded 29 = .ok (.iload_n 2, 1) := by decide +kernel
theorem dX13_flooded_30 : decode cX13_flooded 30 = .ok (.bipush 10, 2) := by decide +kernel
theorem dX13_flooded_32 : decode cX13_flooded 32 = .ok (.idiv, 1) := by decide +kernel
theorem dX13_flooded_33 : decode cX13_flooded 33 = .ok (.goto 4, 3) := by decide +kernel
theorem dX13_flooded_36 : decode cX13_flooded 36 = .ok (.iload_n 1, 1) := by decide +kernel
theorem dX13_flooded_37 : decode cX13_flooded 37 = .ok (.istore_n 1, 1) := by decide +kernel
theorem dX13_flooded_38 : decode cX13_flooded 38 = .ok (.iinc 2 1, 3) := by decide +kernel
theorem dX13_flooded_41 : decode cX13_flooded 41 = .ok (.goto (-37), 3) := by decide +kernel
theorem dX13_flooded_44 : decode cX13_flooded 44 = .ok (.aload_n 0, 1) := by decide +kernel
theorem dX13_flooded_45 : decode cX13_flooded 45 = .ok (.getfield 172, 3) := by decide +kernel
theorem dX13_flooded_48 : decode cX13_flooded 48 = .ok (.bipush 50, 2) := by decide +kernel
theorem dX13_flooded_50 : decode cX13_flooded 50 = .ok (.if_icmp .le 15, 3) := by decide +kernel
theorem dX13_flooded_53 : decode cX13_flooded 53 = .ok (.iload_n 1, 1) := by decide +kernel
theorem dX13_flooded_54 : decode cX13_flooded 54 = .ok (.ifCond .lt 11, 3) := by decide +kernel
theorem dX13_flooded_57 : decode cX13_flooded 57 = .ok (.iconst 1, 1) := by decide +kernel
theorem dX13_flooded_58 : decode cX13_flooded 58 = .ok (.iload_n 1, 1) := by decide +kernel
theorem dX13_flooded_59 : decode cX13_flooded 59 = .ok (.invokestatic 109, 3) := by decide +kernel
theorem dX13_flooded_62 : decode cX13_flooded 62 = .ok (.goto 5, 3) := by decide +kernel
theorem dX13_flooded_65 : decode cX13_flooded 65 = .ok (.bipush 6, 2) := by decide +kernel
theorem dX13_flooded_67 : decode cX13_flooded 67 = .ok (.ireturn, 1) := by decide +kernel
theorem dX13_next_0 : decode cX13_next 0 = .ok (.iconst (-1), 1) := by decide +kernel
theorem dX13_next_1 : decode cX13_next 1 = .ok (.istore_n 3, 1) := by decide +kernel
theorem dX13_next_2 : decode cX13_next 2 = .ok (.iconst 0, 1) := by decide +kernel
theorem dX13_next_3 : decode cX13_next 3 = .ok (.istore 4, 2) := by decide +kernel
theorem dX13_next_5 : decode cX13_next 5 = .ok (.iload 4, 2) := by decide +kernel
theorem dX13_next_7 : decode cX13_next 7 = .ok (.bipush 60, 2) := by decide +kernel
theorem dX13_next_9 : decode cX13_next 9 = .ok (.if_icmp .ge 56, 3) := by decide +kernel
theorem dX13_next_12 : decode cX13_next 12 = .ok (.aload_n 2, 1) := by decide +kernel
theorem dX13_next_13 : decode cX13_next 13 = .ok (.iload 4, 2) := by decide +kernel
theorem dX13_next_15 : decode cX13_next 15 = .ok (.iaload, 1) := by decide +kernel
theorem dX13_next_16 : decode cX13_next 16 = .ok (.iconst (-1), 1) := by decide +kernel
theorem dX13_next_17 : decode cX13_next 17 = .ok (.if_icmp .eq 42, 3) := by decide +kernel
theorem dX13_next_20 : decode cX13_next 20 = .ok (.iload 4, 2) := by decide +kernel
theorem dX13_next_22 : decode cX13_next 22 = .ok (.bipush 10, 2) := by decide +kernel
theorem dX13_next_24 : decode cX13_next 24 = .ok (.idiv, 1) := by decide +kernel
theorem dX13_next_25 : decode cX13_next 25 = .ok (.iload_n 1, 1) := by decide +kernel
theorem dX13_next_26 : decode cX13_next 26 = .ok (.if_icmp .ge 33, 3) := by decide +kernel
theorem dX13_next_29 : decode cX13_next 29 = .ok (.aload_n 0, 1) := by decide +kernel
theorem dX13_next_30 : decode cX13_next 30 = .ok (.iload 4, 2) := by decide +kernel
theorem dX13_next_32 : decode cX13_next 32 = .ok (.invokevirtual 135, 3) := by decide +kernel
theorem dX13_next_35 : decode cX13_next 35 = .ok (.ifCond .ne 6, 3) := by decide +kernel
theorem dX13_next_38 : decode cX13_next 38 = .ok (.goto 21, 3) := by decide +kernel
theorem dX13_next_41 : decode cX13_next 41 = .ok (.iload_n 3, 1) := by decide +kernel
theorem dX13_next_42 : decode cX13_next 42 = .ok (.iconst (-1), 1) := by decide +kernel
theorem dX13_next_43 : decode cX13_next 43 = .ok (.if_icmp .eq 13, 3) := by decide +kernel
theorem dX13_next_46 : decode cX13_next 46 = .ok (.aload_n 2, 1) := by decide +kernel
theorem dX13_next_47 : decode cX13_next 47 = .ok (.iload 4, 2) := by decide +kernel
theorem dX13_next_49 : decode cX13_next 49 = .ok (.iaload, 1) := by decide +kernel
theorem dX13_next_50 : decode cX13_next 50 = .ok (.aload_n 2, 1) := by decide +kernel
theorem dX13_next_51 : decode cX13_next 51 = .ok (.iload_n 3, 1) := by decide +kernel
theorem dX13_next_52 : decode cX13_next 52 = .ok (.iaload, 1) := by decide +kernel
theorem dX13_next_53 : decode cX13_next 53 = .ok (.if_icmp .ge 6, 3) := by decide +kernel
theorem dX13_next_56 : decode cX13_next 56 = .ok (.iload 4, 2) := by decide +kernel
theorem dX13_next_58 : decode cX13_next 58 = .ok (.istore_n 3, 1) := by decide +kernel
theorem dX13_next_59 : decode cX13_next 59 = .ok (.iinc 4 1, 3) := by decide +kernel
theorem dX13_next_62 : decode cX13_next 62 = .ok (.goto (-57), 3) := by decide +kernel
theorem dX13_next_65 : decode cX13_next 65 = .ok (.iload_n 3, 1) := by decide +kernel
theorem dX13_next_66 : decode cX13_next 66 = .ok (.ireturn, 1) := by decide +kernel
theorem dX13_aWeek_0 : decode cX13_aWeek 0 = .ok (.aload_n 0, 1) := by decide +kernel
theorem dX13_aWeek_1 : decode cX13_aWeek 1 = .ok (.invokevirtual 155, 3) := by decide +kernel
theorem dX13_aWeek_4 : decode cX13_aWeek 4 = .ok (.astore_n 1, 1) := by decide +kernel
theorem dX13_aWeek_5 : decode cX13_aWeek 5 = .ok (.aload_n 0, 1) := by decide +kernel
theorem dX13_aWeek_6 : decode cX13_aWeek 6 = .ok (.invokevirtual 175, 3) := by decide +kernel
theorem dX13_aWeek_9 : decode cX13_aWeek 9 = .ok (.istore_n 2, 1) := by decide +kernel
theorem dX13_aWeek_10 : decode cX13_aWeek 10 = .ok (.new 17, 3) := by decide +kernel
theorem dX13_aWeek_13 : decode cX13_aWeek 13 = .ok (.dup, 1) := by decide +kernel
theorem dX13_aWeek_14 : decode cX13_aWeek 14 = .ok (.invokespecial 19, 3) := by decide +kernel
theorem dX13_aWeek_17 : decode cX13_aWeek 17 = .ok (.astore_n 3, 1) := by decide +kernel
theorem dX13_aWeek_18 : decode cX13_aWeek 18 = .ok (.aload_n 0, 1) := by decide +kernel
theorem dX13_aWeek_19 : decode cX13_aWeek 19 = .ok (.bipush 112, 2) := by decide +kernel
theorem dX13_aWeek_21 : decode cX13_aWeek 21 = .ok (.invokevirtual 178, 3) := by decide +kernel
theorem dX13_aWeek_24 : decode cX13_aWeek 24 = .ok (.istore 4, 2) := by decide +kernel
theorem dX13_aWeek_26 : decode cX13_aWeek 26 = .ok (.iconst 0, 1) := by decide +kernel
theorem dX13_aWeek_27 : decode cX13_aWeek 27 = .ok (.istore 5, 2) := by decide +kernel
theorem dX13_aWeek_29 : decode cX13_aWeek 29 = .ok (.iload 5, 2) := by decide +kernel
theorem dX13_aWeek_31 : decode cX13_aWeek 31 = .ok (.aload_n 0, 1) := by decide +kernel
theorem dX13_aWeek_32 : decode cX13_aWeek 32 = .ok (.bipush 115, 2) := by decide +kernel
theorem dX13_aWeek_34 : decode cX13_aWeek 34 = .ok (.invokevirtual 178, 3) := by decide +kernel
theorem dX13_aWeek_37 : decode cX13_aWeek 37 = .ok (.if_icmp .ge 35, 3) := by decide +kernel
theorem dX13_aWeek_40 : decode cX13_aWeek 40 = .ok (.aload_n 0, 1) := by decide +kernel
theorem dX13_aWeek_41 : decode cX13_aWeek 41 = .ok (.iload_n 2, 1) := by decide +kernel
theorem dX13_aWeek_42 : decode cX13_aWeek 42 = .ok (.aload_n 1, 1) := by decide +kernel
theorem dX13_aWeek_43 : decode cX13_aWeek 43 = .ok (.invokevirtual 182, 3) := by decide +kernel
theorem dX13_aWeek_46 : decode cX13_aWeek 46 = .ok (.istore 6, 2) := by decide +kernel
theorem dX13_aWeek_48 : decode cX13_aWeek 48 = .ok (.iload 6, 2) := by decide +kernel
theorem dX13_aWeek_50 : decode cX13_aWeek 50 = .ok (.iconst (-1), 1) := by decide +kernel
theorem dX13_aWeek_51 : decode cX13_aWeek 51 = .ok (.if_icmp .ne 6, 3) := by decide +kernel
theorem dX13_aWeek_54 : decode cX13_aWeek 54 = .ok (.goto 18, 3) := by decide +kernel
theorem dX13_aWeek_57 : decode cX13_aWeek 57 = .ok (.aload_n 0, 1) := by decide +kernel
theorem dX13_aWeek_58 : decode cX13_aWeek 58 = .ok (.iload 6, 2) := by decide +kernel
theorem dX13_aWeek_60 : decode cX13_aWeek 60 = .ok (.aload_n 3, 1) := by decide +kernel
theorem dX13_aWeek_61 : decode cX13_aWeek 61 = .ok (.iload 4, 2) := by decide +kernel
theorem dX13_aWeek_63 : decode cX13_aWeek 63 = .ok (.invokevirtual 185, 3) := by decide +kernel
theorem dX13_aWeek_66 : decode cX13_aWeek 66 = .ok (.iinc 5 1, 3) := by decide +kernel
theorem dX13_aWeek_69 : decode cX13_aWeek 69 = .ok (.goto (-40), 3) := by decide +kernel
theorem dX13_aWeek_72 : decode cX13_aWeek 72 = .ok (.aload_n 3, 1) := by decide +kernel
theorem dX13_aWeek_73 : decode cX13_aWeek 73 = .ok (.invokeinterface 64 1, 5) := by decide +kernel
theorem dX13_aWeek_78 : decode cX13_aWeek 78 = .ok (.iload 4, 2) := by decide +kernel
theorem dX13_aWeek_80 : decode cX13_aWeek 80 = .ok (.if_icmp .ge 27, 3) := by decide +kernel
theorem dX13_aWeek_83 : decode cX13_aWeek 83 = .ok (.aload_n 0, 1) := by decide +kernel
theorem dX13_aWeek_84 : decode cX13_aWeek 84 = .ok (.getfield 189, 3) := by decide +kernel
theorem dX13_aWeek_87 : decode cX13_aWeek 87 = .ok (.ifCond .le 20, 3) := by decide +kernel
theorem dX13_aWeek_90 : decode cX13_aWeek 90 = .ok (.aload_n 3, 1) := by decide +kernel
theorem dX13_aWeek_91 : decode cX13_aWeek 91 = .ok (.aload_n 0, 1) := by decide +kernel
theorem dX13_aWeek_92 : decode cX13_aWeek 92 = .ok (.invokevirtual 192, 3) := by decide +kernel
theorem dX13_aWeek_95 : decode cX13_aWeek 95 = .ok (.invokestatic 122, 3) := by decide +kernel
theorem dX13_aWeek_98 : decode cX13_aWeek 98 = .ok (.invokeinterface 40 2, 5) := by decide +kernel
theorem dX13_aWeek_103 : decode cX13_aWeek 103 = .ok (.pop, 1) := by decide +kernel
theorem dX13_aWeek_104 : decode cX13_aWeek 104 = .ok (.goto (-32), 3) := by decide +kernel
theorem dX13_aWeek_107 : decode cX13_aWeek 107 = .ok (.aload_n 0, 1) := by decide +kernel
theorem dX13_aWeek_108 : decode cX13_aWeek 108 = .ok (.aload_n 3, 1) := by decide +kernel
theorem dX13_aWeek_109 : decode cX13_aWeek 109 = .ok (.invokevirtual 195, 3) := by decide +kernel
theorem dX13_aWeek_112 : decode cX13_aWeek 112 = .ok (.aload_n 0, 1) := by decide +kernel
theorem dX13_aWeek_113 : decode cX13_aWeek 113 = .ok (.dup, 1) := by decide +kernel
theorem dX13_aWeek_114 : decode cX13_aWeek 114 = .ok (.getfield 172, 3) := by decide +kernel
theorem dX13_aWeek_117 : decode cX13_aWeek 117 = .ok (.aload_n 0, 1) := by decide +kernel
theorem dX13_aWeek_118 : decode cX13_aWeek 118 = .ok (.bipush 114, 2) := by decide +kernel
theorem dX13_aWeek_120 : decode cX13_aWeek 120 = .ok (.invokevirtual 178, 3) := by decide +kernel
theorem dX13_aWeek_123 : decode cX13_aWeek 123 = .ok (.iadd, 1) := by decide +kernel
theorem dX13_aWeek_124 : decode cX13_aWeek 124 = .ok (.putfield 172, 3) := by decide +kernel
theorem dX13_aWeek_127 : decode cX13_aWeek 127 = .ok (.aload_n 0, 1) := by decide +kernel
theorem dX13_aWeek_128 : decode cX13_aWeek 128 = .ok (.bipush 119, 2) := by decide +kernel
theorem dX13_aWeek_130 : decode cX13_aWeek 130 = .ok (.invokevirtual 178, 3) := by decide +kernel
theorem dX13_aWeek_133 : decode cX13_aWeek 133 = .ok (.aload_n 0, 1) := by decide +kernel
theorem dX13_aWeek_134 : decode cX13_aWeek 134 = .ok (.getfield 172, 3) := by decide +kernel
theorem dX13_aWeek_137 : decode cX13_aWeek 137 = .ok (.invokestatic 199, 3) := by decide +kernel
theorem dX13_aWeek_140 : decode cX13_aWeek 140 = .ok (.istore 5, 2) := by decide +kernel
theorem dX13_aWeek_142 : decode cX13_aWeek 142 = .ok (.aload_n 0, 1) := by decide +kernel
theorem dX13_aWeek_143 : decode cX13_aWeek 143 = .ok (.dup, 1) := by decide +kernel
theorem dX13_aWeek_144 : decode cX13_aWeek 144 = .ok (.getfield 172, 3) := by decide +kernel
theorem dX13_aWeek_147 : decode cX13_aWeek 147 = .ok (.iload 5, 2) := by decide +kernel
theorem dX13_aWeek_149 : decode cX13_aWeek 149 = .ok (.isub, 1) := by decide +kernel
theorem dX13_aWeek_150 : decode cX13_aWeek 150 = .ok (.putfield 172, 3) := by decide +kernel
theorem dX13_aWeek_153 : decode cX13_aWeek 153 = .ok (.aload_n 0, 1) := by decide +kernel
theorem dX13_aWeek_154 : decode cX13_aWeek 154 = .ok (.dup, 1) := by decide +kernel
theorem dX13_aWeek_155 : decode cX13_aWeek 155 = .ok (.getfield 202, 3) := by decide +kernel
theorem dX13_aWeek_158 : decode cX13_aWeek 158 = .ok (.ldc2_w 206, 3) := by decide +kernel
theorem dX13_aWeek_161 : decode cX13_aWeek 161 = .ok (.iload 5, 2) := by decide +kernel
theorem dX13_aWeek_163 : decode cX13_aWeek 163 = .ok (.bipush 9, 2) := by decide +kernel
theorem dX13_aWeek_165 : decode cX13_aWeek 165 = .ok (.iadd, 1) := by decide +kernel
theorem dX13_aWeek_166 : decode cX13_aWeek 166 = .ok (.bipush 10, 2) := by decide +kernel
theorem dX13_aWeek_168 : decode cX13_aWeek 168 = .ok (.idiv, 1) := by decide +kernel
theorem dX13_aWeek_169 : decode cX13_aWeek 169 = .ok (.i2l, 1) := by decide +kernel
theorem dX13_aWeek_170 : decode cX13_aWeek 170 = .ok (.lmul, 1) := by decide +kernel
theorem dX13_aWeek_171 : decode cX13_aWeek 171 = .ok (.lsub, 1) := by decide +kernel
theorem dX13_aWeek_172 : decode cX13_aWeek 172 = .ok (.putfield 202, 3) := by decide +kernel
theorem dX13_aWeek_175 : decode cX13_aWeek 175 = .ok (.aload_n 0, 1) := by decide +kernel
theorem dX13_aWeek_176 : decode cX13_aWeek 176 = .ok (.dup, 1) := by decide +kernel
theorem dX13_aWeek_177 : decode cX13_aWeek 177 = .ok (.getfield 208, 3) := by decide +kernel
theorem dX13_aWeek_180 : decode cX13_aWeek 180 = .ok (.iconst 1, 1) := by decide +kernel
theorem dX13_aWeek_181 : decode cX13_aWeek 181 = .ok (.iadd, 1) := by decide +kernel
theorem dX13_aWeek_182 : decode cX13_aWeek 182 = .ok (.putfield 208, 3) := by decide +kernel
theorem dX13_aWeek_185 : decode cX13_aWeek 185 = .ok (.return_, 1) := by decide +kernel
theorem dX13_digs_0 : decode cX13_digs 0 = .ok (.aload_n 0, 1) := by decide +kernel
theorem dX13_digs_1 : decode cX13_digs 1 = .ok (.getfield 20, 3) := by decide +kernel
theorem dX13_digs_4 : decode cX13_digs 4 = .ok (.iload_n 1, 1) := by decide +kernel
theorem dX13_digs_5 : decode cX13_digs 5 = .ok (.invokeinterface 50 2, 5) := by decide +kernel
theorem dX13_digs_10 : decode cX13_digs 10 = .ok (.checkcast 37, 3) := by decide +kernel
theorem dX13_digs_13 : decode cX13_digs 13 = .ok (.astore 4, 2) := by decide +kernel
theorem dX13_digs_15 : decode cX13_digs 15 = .ok (.aload_n 0, 1) := by decide +kernel
theorem dX13_digs_16 : decode cX13_digs 16 = .ok (.iload_n 1, 1) := by decide +kernel
theorem dX13_digs_17 : decode cX13_digs 17 = .ok (.invokevirtual 105, 3) := by decide +kernel
theorem dX13_digs_20 : decode cX13_digs 20 = .ok (.istore 5, 2) := by decide +kernel
theorem dX13_digs_22 : decode cX13_digs 22 = .ok (.aload 4, 2) := by decide +kernel
theorem dX13_digs_24 : decode cX13_digs 24 = .ok (.getfield 73, 3) := by decide +kernel
theorem dX13_digs_27 : decode cX13_digs 27 = .ok (.iconst (-1), 1) := by decide +kernel
theorem dX13_digs_28 : decode cX13_digs 28 = .ok (.if_icmp .ne 8, 3) := by decide +kernel
theorem dX13_digs_31 : decode cX13_digs 31 = .ok (.iload 5, 2) := by decide +kernel
theorem dX13_digs_33 : decode cX13_digs 33 = .ok (.goto 8, 3) := by decide +kernel
theorem dX13_digs_36 : decode cX13_digs 36 = .ok (.aload 4, 2) := by decide +kernel
theorem dX13_digs_38 : decode cX13_digs 38 = .ok (.getfield 73, 3) := by decide +kernel
theorem dX13_digs_41 : decode cX13_digs 41 = .ok (.istore 6, 2) := by decide +kernel
theorem dX13_digs_43 : decode cX13_digs 43 = .ok (.aload_n 0, 1) := by decide +kernel
theorem dX13_digs_44 : decode cX13_digs 44 = .ok (.dup, 1) := by decide +kernel
theorem dX13_digs_45 : decode cX13_digs 45 = .ok (.getfield 211, 3) := by decide +kernel
theorem dX13_digs_48 : decode cX13_digs 48 = .ok (.iload 5, 2) := by decide +kernel
theorem dX13_digs_50 : decode cX13_digs 50 = .ok (.iadd, 1) := by decide +kernel
theorem dX13_digs_51 : decode cX13_digs 51 = .ok (.putfield 211, 3) := by decide +kernel
theorem dX13_digs_54 : decode cX13_digs 54 = .ok (.aload_n 0, 1) := by decide +kernel
theorem dX13_digs_55 : decode cX13_digs 55 = .ok (.dup, 1) := by decide +kernel
theorem dX13_digs_56 : decode cX13_digs 56 = .ok (.getfield 214, 3) := by decide +kernel
theorem dX13_digs_59 : decode cX13_digs 59 = .ok (.iload 6, 2) := by decide +kernel
theorem dX13_digs_61 : decode cX13_digs 61 = .ok (.iadd, 1) := by decide +kernel
theorem dX13_digs_62 : decode cX13_digs 62 = .ok (.putfield 214, 3) := by decide +kernel
theorem dX13_digs_65 : decode cX13_digs 65 = .ok (.aload_n 0, 1) := by decide +kernel
theorem dX13_digs_66 : decode cX13_digs 66 = .ok (.dup, 1) := by decide +kernel
theorem dX13_digs_67 : decode cX13_digs 67 = .ok (.getfield 202, 3) := by decide +kernel
theorem dX13_digs_70 : decode cX13_digs 70 = .ok (.iload_n 1, 1) := by decide +kernel
theorem dX13_digs_71 : decode cX13_digs 71 = .ok (.invokestatic 113, 3) := by decide +kernel
theorem dX13_digs_74 : decode cX13_digs 74 = .ok (.i2l, 1) := by decide +kernel
theorem dX13_digs_75 : decode cX13_digs 75 = .ok (.lsub, 1) := by decide +kernel
theorem dX13_digs_76 : decode cX13_digs 76 = .ok (.putfield 202, 3) := by decide +kernel
theorem dX13_digs_79 : decode cX13_digs 79 = .ok (.aload 4, 2) := by decide +kernel
theorem dX13_digs_81 : decode cX13_digs 81 = .ok (.iconst 1, 1) := by decide +kernel
theorem dX13_digs_82 : decode cX13_digs 82 = .ok (.putfield 54, 3) := by decide +kernel
theorem dX13_digs_85 : decode cX13_digs 85 = .ok (.aload 4, 2) := by decide +kernel
theorem dX13_digs_87 : decode cX13_digs 87 = .ok (.aload_n 0, 1) := by decide +kernel
theorem dX13_digs_88 : decode cX13_digs 88 = .ok (.getfield 208, 3) := by decide +kernel
theorem dX13_digs_91 : decode cX13_digs 91 = .ok (.putfield 217, 3) := by decide +kernel
theorem dX13_digs_94 : decode cX13_digs 94 = .ok (.aload 4, 2) := by decide +kernel
theorem dX13_digs_96 : decode cX13_digs 96 = .ok (.iload 6, 2) := by decide +kernel
theorem dX13_digs_98 : decode cX13_digs 98 = .ok (.aload_n 0, 1) := by decide +kernel
theorem dX13_digs_99 : decode cX13_digs 99 = .ok (.bipush 99, 2) := by decide +kernel
theorem dX13_digs_101 : decode cX13_digs 101 = .ok (.invokevirtual 178, 3) := by decide +kernel
theorem dX13_digs_104 : decode cX13_digs 104 = .ok (.if_icmp .lt 18, 3) := by decide +kernel
theorem dX13_digs_107 : decode cX13_digs 107 = .ok (.aload_n 2, 1) := by decide +kernel
theorem dX13_digs_108 : decode cX13_digs 108 = .ok (.invokeinterface 64 1, 5) := by decide +kernel
theorem dX13_digs_113 : decode cX13_digs 113 = .ok (.iload_n 3, 1) := by decide +kernel
theorem dX13_digs_114 : decode cX13_digs 114 = .ok (.if_icmp .ge 8, 3) := by decide +kernel
theorem dX13_digs_117 : decode cX13_digs 117 = .ok (.bipush 112, 2) := by decide +kernel
theorem dX13_digs_119 : decode cX13_digs 119 = .ok (.goto 21, 3) := by decide +kernel
theorem dX13_digs_122 : decode cX13_digs 122 = .ok (.iload 6, 2) := by decide +kernel
theorem dX13_digs_124 : decode cX13_digs 124 = .ok (.aload_n 0, 1) := by decide +kernel
theorem dX13_digs_125 : decode cX13_digs 125 = .ok (.bipush 108, 2) := by decide +kernel
theorem dX13_digs_127 : decode cX13_digs 127 = .ok (.invokevirtual 178, 3) := by decide +kernel
theorem dX13_digs_130 : decode cX13_digs 130 = .ok (.if_icmp .lt 8, 3) := by decide +kernel
theorem dX13_digs_133 : decode cX13_digs 133 = .ok (.bipush 115, 2) := by decide +kernel
theorem dX13_digs_135 : decode cX13_digs 135 = .ok (.goto 5, 3) := by decide +kernel
theorem dX13_digs_138 : decode cX13_digs 138 = .ok (.bipush 100, 2) := by decide +kernel
theorem dX13_digs_140 : decode cX13_digs 140 = .ok (.putfield 218, 3) := by decide +kernel
theorem dX13_digs_143 : decode cX13_digs 143 = .ok (.aload 4, 2) := by decide +kernel
theorem dX13_digs_145 : decode cX13_digs 145 = .ok (.getfield 218, 3) := by decide +kernel
theorem dX13_digs_148 : decode cX13_digs 148 = .ok (.bipush 112, 2) := by decide +kernel
theorem dX13_digs_150 : decode cX13_digs 150 = .ok (.if_icmp .ne 15, 3) := by decide +kernel
theorem dX13_digs_153 : decode cX13_digs 153 = .ok (.aload_n 2, 1) := by decide +kernel
theorem dX13_digs_154 : decode cX13_digs 154 = .ok (.iload 6, 2) := by decide +kernel
theorem dX13_digs_156 : decode cX13_digs 156 = .ok (.invokestatic 122, 3) := by decide +kernel
theorem dX13_digs_159 : decode cX13_digs 159 = .ok (.invokeinterface 40 2, 5) := by decide +kernel
theorem dX13_digs_164 : decode cX13_digs 164 = .ok (.pop, 1) := by decide +kernel
theorem dX13_digs_165 : decode cX13_digs 165 = .ok (.aload 4, 2) := by decide +kernel
theorem dX13_digs_167 : decode cX13_digs 167 = .ok (.getfield 218, 3) := by decide +kernel
theorem dX13_digs_170 : decode cX13_digs 170 = .ok (.bipush 100, 2) := by decide +kernel
theorem dX13_digs_172 : decode cX13_digs 172 = .ok (.if_icmp .ne 13, 3) := by decide +kernel
theorem dX13_digs_175 : decode cX13_digs 175 = .ok (.aload_n 0, 1) := by decide +kernel
theorem dX13_digs_176 : decode cX13_digs 176 = .ok (.dup, 1) := by decide +kernel
theorem dX13_digs_177 : decode cX13_digs 177 = .ok (.getfield 222, 3) := by decide +kernel
theorem dX13_digs_180 : decode cX13_digs 180 = .ok (.iconst 1, 1) := by decide +kernel
theorem dX13_digs_181 : decode cX13_digs 181 = .ok (.iadd, 1) := by decide +kernel
theorem dX13_digs_182 : decode cX13_digs 182 = .ok (.putfield 222, 3) := by decide +kernel
theorem dX13_digs_185 : decode cX13_digs 185 = .ok (.aload 4, 2) := by decide +kernel
theorem dX13_digs_187 : decode cX13_digs 187 = .ok (.getfield 218, 3) := by decide +kernel
theorem dX13_digs_190 : decode cX13_digs 190 = .ok (.bipush 115, 2) := by decide +kernel
theorem dX13_digs_192 : decode cX13_digs 192 = .ok (.if_icmp .ne 39, 3) := by decide +kernel
theorem dX13_digs_195 : decode cX13_digs 195 = .ok (.aload_n 0, 1) := by decide +kernel
theorem dX13_digs_196 : decode cX13_digs 196 = .ok (.getfield 30, 3) := by decide +kernel
theorem dX13_digs_199 : decode cX13_digs 199 = .ok (.iload 6, 2) := by decide +kernel
theorem dX13_digs_201 : decode cX13_digs 201 = .ok (.invokestatic 122, 3) := by decide +kernel
theorem dX13_digs_204 : decode cX13_digs 204 = .ok (.invokeinterface 40 2, 5) := by decide +kernel
theorem dX13_digs_209 : decode cX13_digs 209 = .ok (.pop, 1) := by decide +kernel
theorem dX13_digs_210 : decode cX13_digs 210 = .ok (.aload_n 0, 1) := by decide +kernel
theorem dX13_digs_211 : decode cX13_digs 211 = .ok (.dup, 1) := by decide +kernel
theorem dX13_digs_212 : decode cX13_digs 212 = .ok (.getfield 189, 3) := by decide +kernel
theorem dX13_digs_215 : decode cX13_digs 215 = .ok (.iconst 1, 1) := by decide +kernel
theorem dX13_digs_216 : decode cX13_digs 216 = .ok (.iadd, 1) := by decide +kernel
theorem dX13_digs_217 : decode cX13_digs 217 = .ok (.putfield 189, 3) := by decide +kernel
theorem dX13_digs_220 : decode cX13_digs 220 = .ok (.aload_n 0, 1) := by decide +kernel
theorem dX13_digs_221 : decode cX13_digs 221 = .ok (.dup, 1) := by decide +kernel
theorem dX13_digs_222 : decode cX13_digs 222 = .ok (.getfield 225, 3) := by decide +kernel
theorem dX13_digs_225 : decode cX13_digs 225 = .ok (.iload 6, 2) := by decide +kernel
theorem dX13_digs_227 : decode cX13_digs 227 = .ok (.iadd, 1) := by decide +kernel
theorem dX13_digs_228 : decode cX13_digs 228 = .ok (.putfield 225, 3) := by decide +kernel
theorem dX13_digs_231 : decode cX13_digs 231 = .ok (.aload 4, 2) := by decide +kernel
theorem dX13_digs_233 : decode cX13_digs 233 = .ok (.getfield 73, 3) := by decide +kernel
theorem dX13_digs_236 : decode cX13_digs 236 = .ok (.iconst (-1), 1) := by decide +kernel
theorem dX13_digs_237 : decode cX13_digs 237 = .ok (.if_icmp .eq 37, 3) := by decide +kernel
theorem dX13_digs_240 : decode cX13_digs 240 = .ok (.aload_n 0, 1) := by decide +kernel
theorem dX13_digs_241 : decode cX13_digs 241 = .ok (.getfield 24, 3) := by decide +kernel
theorem dX13_digs_244 : decode cX13_digs 244 = .ok (.invokeinterface 64 1, 5) := by decide +kernel
theorem dX13_digs_249 : decode cX13_digs 249 = .ok (.bipush 40, 2) := by decide +kernel
theorem dX13_digs_251 : decode cX13_digs 251 = .ok (.if_icmp .ge 23, 3) := by decide +kernel
theorem dX13_digs_254 : decode cX13_digs 254 = .ok (.aload_n 0, 1) := by decide +kernel
theorem dX13_digs_255 : decode cX13_digs 255 = .ok (.getfield 24, 3) := by decide +kernel
theorem dX13_digs_258 : decode cX13_digs 258 = .ok (.new 68, 3) := by decide +kernel
theorem dX13_digs_261 : decode cX13_digs 261 = .ok (.dup, 1) := by decide +kernel
theorem dX13_digs_262 : decode cX13_digs 262 = .ok (.iload_n 1, 1) := by decide +kernel
theorem dX13_digs_263 : decode cX13_digs 263 = .ok (.iload 6, 2) := by decide +kernel
theorem dX13_digs_265 : decode cX13_digs 265 = .ok (.invokespecial 70, 3) := by decide +kernel
theorem dX13_digs_268 : decode cX13_digs 268 = .ok (.invokeinterface 40 2, 5) := by decide +kernel
theorem dX13_digs_273 : decode cX13_digs 273 = .ok (.pop, 1) := by decide +kernel
theorem dX13_digs_274 : decode cX13_digs 274 = .ok (.return_, 1) := by decide +kernel
theorem dX13_given_0 : decode cX13_given 0 = .ok (.aload_n 0, 1) := by decide +kernel
theorem dX13_given_1 : decode cX13_given 1 = .ok (.getfield 169, 3) := by decide +kernel
theorem dX13_given_4 : decode cX13_given 4 = .ok (.ifCond .eq 28, 3) := by decide +kernel
theorem dX13_given_7 : decode cX13_given 7 = .ok (.aload_n 0, 1) := by decide +kernel
theorem dX13_given_8 : decode cX13_given 8 = .ok (.aload_n 0, 1) := by decide +kernel
theorem dX13_given_9 : decode cX13_given 9 = .ok (.getfield 189, 3) := by decide +kernel
theorem dX13_given_12 : decode cX13_given 12 = .ok (.putfield 228, 3) := by decide +kernel
theorem dX13_given_15 : decode cX13_given 15 = .ok (.aload_n 0, 1) := by decide +kernel
theorem dX13_given_16 : decode cX13_given 16 = .ok (.aload_n 0, 1) := by decide +kernel
theorem dX13_given_17 : decode cX13_given 17 = .ok (.getfield 225, 3) := by decide +kernel
theorem dX13_given_20 : decode cX13_given 20 = .ok (.putfield 231, 3) := by decide +kernel
theorem dX13_given_23 : decode cX13_given 23 = .ok (.aload_n 0, 1) := by decide +kernel
theorem dX13_given_24 : decode cX13_given 24 = .ok (.getfield 30, 3) := by decide +kernel
theorem dX13_given_27 : decode cX13_given 27 = .ok (.invokeinterface 146 1, 5) := by decide +kernel
theorem dX13_given_32 : decode cX13_given 32 = .ok (.aload_n 0, 1) := by decide +kernel
theorem dX13_given_33 : decode cX13_given 33 = .ok (.getfield 228, 3) := by decide +kernel
theorem dX13_given_36 : decode cX13_given 36 = .ok (.ifCond .le 15, 3) := by decide +kernel
theorem dX13_given_39 : decode cX13_given 39 = .ok (.aload_n 0, 1) := by decide +kernel
theorem dX13_given_40 : decode cX13_given 40 = .ok (.getfield 231, 3) := by decide +kernel
theorem dX13_given_43 : decode cX13_given 43 = .ok (.aload_n 0, 1) := by decide +kernel
theorem dX13_given_44 : decode cX13_given 44 = .ok (.getfield 228, 3) := by decide +kernel
theorem dX13_given_47 : decode cX13_given 47 = .ok (.idiv, 1) := by decide +kernel
theorem dX13_given_48 : decode cX13_given 48 = .ok (.goto 19, 3) := by decide +kernel
theorem dX13_given_51 : decode cX13_given 51 = .ok (.aload_n 0, 1) := by decide +kernel
theorem dX13_given_52 : decode cX13_given 52 = .ok (.getfield 30, 3) := by decide +kernel
theorem dX13_given_55 : decode cX13_given 55 = .ok (.iconst 0, 1) := by decide +kernel
theorem dX13_given_56 : decode cX13_given 56 = .ok (.invokeinterface 234 2, 5) := by decide +kernel
theorem dX13_given_61 : decode cX13_given 61 = .ok (.checkcast 123, 3) := by decide +kernel
theorem dX13_given_64 : decode cX13_given 64 = .ok (.invokevirtual 132, 3) := by decide +kernel
theorem dX13_given_67 : decode cX13_given 67 = .ok (.istore_n 1, 1) := by decide +kernel
theorem dX13_given_68 : decode cX13_given 68 = .ok (.aload_n 0, 1) := by decide +kernel
theorem dX13_given_69 : decode cX13_given 69 = .ok (.dup, 1) := by decide +kernel
theorem dX13_given_70 : decode cX13_given 70 = .ok (.getfield 231, 3) := by decide +kernel
theorem dX13_given_73 : decode cX13_given 73 = .ok (.aload_n 0, 1) := by decide +kernel
theorem dX13_given_74 : decode cX13_given 74 = .ok (.getfield 228, 3) := by decide +kernel
theorem dX13_given_77 : decode cX13_given 77 = .ok (.ifCond .le 7, 3) := by decide +kernel
theorem dX13_given_80 : decode cX13_given 80 = .ok (.iload_n 1, 1) := by decide +kernel
theorem dX13_given_81 : decode cX13_given 81 = .ok (.goto 4, 3) := by decide +kernel
theorem dX13_given_84 : decode cX13_given 84 = .ok (.iconst 0, 1) := by decide +kernel
theorem dX13_given_85 : decode cX13_given 85 = .ok (.isub, 1) := by decide +kernel
theorem dX13_given_86 : decode cX13_given 86 = .ok (.putfield 231, 3) := by decide +kernel
theorem dX13_given_89 : decode cX13_given 89 = .ok (.aload_n 0, 1) := by decide +kernel
theorem dX13_given_90 : decode cX13_given 90 = .ok (.dup, 1) := by decide +kernel
theorem dX13_given_91 : decode cX13_given 91 = .ok (.getfield 228, 3) := by decide +kernel
theorem dX13_given_94 : decode cX13_given 94 = .ok (.aload_n 0, 1) := by decide +kernel
theorem dX13_given_95 : decode cX13_given 95 = .ok (.getfield 228, 3) := by decide +kernel
theorem dX13_given_98 : decode cX13_given 98 = .ok (.ifCond .le 7, 3) := by decide +kernel
theorem dX13_given_101 : decode cX13_given 101 = .ok (.iconst 1, 1) := by decide +kernel
theorem dX13_given_102 : decode cX13_given 102 = .ok (.goto 4, 3) := by decide +kernel
theorem dX13_given_105 : decode cX13_given 105 = .ok (.iconst 0, 1) := by decide +kernel
theorem dX13_given_106 : decode cX13_given 106 = .ok (.isub, 1) := by decide +kernel
theorem dX13_given_107 : decode cX13_given 107 = .ok (.putfield 228, 3) := by decide +kernel
theorem dX13_given_110 : decode cX13_given 110 = .ok (.aload_n 0, 1) := by decide +kernel
theorem dX13_given_111 : decode cX13_given 111 = .ok (.dup, 1) := by decide +kernel
theorem dX13_given_112 : decode cX13_given 112 = .ok (.getfield 189, 3) := by decide +kernel
theorem dX13_given_115 : decode cX13_given 115 = .ok (.iconst 1, 1) := by decide +kernel
theorem dX13_given_116 : decode cX13_given 116 = .ok (.isub, 1) := by decide +kernel
theorem dX13_given_117 : decode cX13_given 117 = .ok (.putfield 189, 3) := by decide +kernel
theorem dX13_given_120 : decode cX13_given 120 = .ok (.aload_n 0, 1) := by decide +kernel
theorem dX13_given_121 : decode cX13_given 121 = .ok (.dup, 1) := by decide +kernel
theorem dX13_given_122 : decode cX13_given 122 = .ok (.getfield 225, 3) := by decide +kernel
theorem dX13_given_125 : decode cX13_given 125 = .ok (.iload_n 1, 1) := by decide +kernel
theorem dX13_given_126 : decode cX13_given 126 = .ok (.isub, 1) := by decide +kernel
theorem dX13_given_127 : decode cX13_given 127 = .ok (.putfield 225, 3) := by decide +kernel
theorem dX13_given_130 : decode cX13_given 130 = .ok (.iload_n 1, 1) := by decide +kernel
theorem dX13_given_131 : decode cX13_given 131 = .ok (.ireturn, 1) := by decide +kernel
theorem dX13_mills_0 : decode cX13_mills 0 = .ok (.aload_n 1, 1) := by decide +kernel
theorem dX13_mills_1 : decode cX13_mills 1 = .ok (.invokeinterface 96 1, 5) := by decide +kernel
theorem dX13_mills_6 : decode cX13_mills 6 = .ok (.ifCond .eq 4, 3) := by decide +kernel
theorem dX13_mills_9 : decode cX13_mills 9 = .ok (.return_, 1) := by decide +kernel
theorem dX13_mills_10 : decode cX13_mills 10 = .ok (.iconst 0, 1) := by decide +kernel
theorem dX13_mills_11 : decode cX13_mills 11 = .ok (.istore_n 2, 1) := by decide +kernel
theorem dX13_mills_12 : decode cX13_mills 12 = .ok (.aload_n 1, 1) := by decide +kernel
theorem dX13_mills_13 : decode cX13_mills 13 = .ok (.invokeinterface 76 1, 5) := by decide +kernel
theorem dX13_mills_18 : decode cX13_mills 18 = .ok (.astore_n 3, 1) := by decide +kernel
theorem dX13_mills_19 : decode cX13_mills 19 = .ok (.aload_n 3, 1) := by decide +kernel
theorem dX13_mills_20 : decode cX13_mills 20 = .ok (.invokeinterface 80 1, 5) := by decide +kernel
theorem dX13_mills_25 : decode cX13_mills 25 = .ok (.ifCond .eq 25, 3) := by decide +kernel
theorem dX13_mills_28 : decode cX13_mills 28 = .ok (.aload_n 3, 1) := by decide +kernel
theorem dX13_mills_29 : decode cX13_mills 29 = .ok (.invokeinterface 86 1, 5) := by decide +kernel
theorem dX13_mills_34 : decode cX13_mills 34 = .ok (.checkcast 123, 3) := by decide +kernel
theorem dX13_mills_37 : decode cX13_mills 37 = .ok (.invokevirtual 132, 3) := by decide +kernel
theorem dX13_mills_40 : decode cX13_mills 40 = .ok (.istore 4, 2) := by decide +kernel
theorem dX13_mills_42 : decode cX13_mills 42 = .ok (.iload_n 2, 1) := by decide +kernel
theorem dX13_mills_43 : decode cX13_mills 43 = .ok (.iload 4, 2) := by decide +kernel
theorem dX13_mills_45 : decode cX13_mills 45 = .ok (.iadd, 1) := by decide +kernel
theorem dX13_mills_46 : decode cX13_mills 46 = .ok (.istore_n 2, 1) := by decide +kernel
theorem dX13_mills_47 : decode cX13_mills 47 = .ok (.goto (-28), 3) := by decide +kernel
theorem dX13_mills_50 : decode cX13_mills 50 = .ok (.iload_n 2, 1) := by decide +kernel
theorem dX13_mills_51 : decode cX13_mills 51 = .ok (.i2d, 1) := by decide +kernel
theorem dX13_mills_52 : decode cX13_mills 52 = .ok (.aload_n 1, 1) := by decide +kernel
theorem dX13_mills_53 : decode cX13_mills 53 = .ok (.invokeinterface 64 1, 5) := by decide +kernel
theorem dX13_mills_58 : decode cX13_mills 58 = .ok (.i2d, 1) := by decide +kernel
theorem dX13_mills_59 : decode cX13_mills 59 = .ok (.ddiv, 1) := by decide +kernel
theorem dX13_mills_60 : decode cX13_mills 60 = .ok (.dstore_n 3, 1) := by decide +kernel
theorem dX13_mills_61 : decode cX13_mills 61 = .ok (.aload_n 0, 1) := by decide +kernel
theorem dX13_mills_62 : decode cX13_mills 62 = .ok (.aload_n 0, 1) := by decide +kernel
theorem dX13_mills_63 : decode cX13_mills 63 = .ok (.getfield 237, 3) := by decide +kernel
theorem dX13_mills_66 : decode cX13_mills 66 = .ok (.ifCond .eq 29, 3) := by decide +kernel
theorem dX13_mills_69 : decode cX13_mills 69 = .ok (.ldc2_w 240, 3) := by decide +kernel
theorem dX13_mills_72 : decode cX13_mills 72 = .ok (.ldc2_w 242, 3) := by decide +kernel
theorem dX13_mills_75 : decode cX13_mills 75 = .ok (.dload_n 3, 1) := by decide +kernel
theorem dX13_mills_76 : decode cX13_mills 76 = .ok (.aload_n 0, 1) := by decide +kernel
theorem dX13_mills_77 : decode cX13_mills 77 = .ok (.getfield 244, 3) := by decide +kernel
theorem dX13_mills_80 : decode cX13_mills 80 = .ok (.dsub, 1) := by decide +kernel
theorem dX13_mills_81 : decode cX13_mills 81 = .ok (.invokestatic 248, 3) := by decide +kernel
theorem dX13_mills_84 : decode cX13_mills 84 = .ok (.dsub, 1) := by decide +kernel
theorem dX13_mills_85 : decode cX13_mills 85 = .ok (.invokestatic 251, 3) := by decide +kernel
theorem dX13_mills_88 : decode cX13_mills 88 = .ok (.invokestatic 99, 3) := by decide +kernel
theorem dX13_mills_91 : decode cX13_mills 91 = .ok (.d2i, 1) := by decide +kernel
theorem dX13_mills_92 : decode cX13_mills 92 = .ok (.goto 5, 3) := by decide +kernel
theorem dX13_mills_95 : decode cX13_mills 95 = .ok (.bipush 90, 2) := by decide +kernel
theorem dX13_mills_97 : decode cX13_mills 97 = .ok (.putfield 254, 3) := by decide +kernel
theorem dX13_mills_100 : decode cX13_mills 100 = .ok (.aload_n 0, 1) := by decide +kernel
theorem dX13_mills_101 : decode cX13_mills 101 = .ok (.iconst 1, 1) := by decide +kernel
theorem dX13_mills_102 : decode cX13_mills 102 = .ok (.putfield 237, 3) := by decide +kernel
theorem dX13_mills_105 : decode cX13_mills 105 = .ok (.aload_n 0, 1) := by decide +kernel
theorem dX13_mills_106 : decode cX13_mills 106 = .ok (.dload_n 3, 1) := by decide +kernel
theorem dX13_mills_107 : decode cX13_mills 107 = .ok (.putfield 244, 3) := by decide +kernel
theorem dX13_mills_110 : decode cX13_mills 110 = .ok (.lconst 0, 1) := by decide +kernel
theorem dX13_mills_111 : decode cX13_mills 111 = .ok (.lstore 5, 2) := by decide +kernel
theorem dX13_mills_113 : decode cX13_mills 113 = .ok (.aload_n 1, 1) := by decide +kernel
theorem dX13_mills_114 : decode cX13_mills 114 = .ok (.invokeinterface 76 1, 5) := by decide +kernel
theorem dX13_mills_119 : decode cX13_mills 119 = .ok (.astore 7, 2) := by decide +kernel
theorem dX13_mills_121 : decode cX13_mills 121 = .ok (.aload 7, 2) := by decide +kernel
theorem dX13_mills_123 : decode cX13_mills 123 = .ok (.invokeinterface 80 1, 5) := by decide +kernel
theorem dX13_mills_128 : decode cX13_mills 128 = .ok (.ifCond .eq 40, 3) := by decide +kernel
theorem dX13_mills_131 : decode cX13_mills 131 = .ok (.aload 7, 2) := by decide +kernel
theorem dX13_mills_133 : decode cX13_mills 133 = .ok (.invokeinterface 86 1, 5) := by decide +kernel
theorem dX13_mills_138 : decode cX13_mills 138 = .ok (.checkcast 123, 3) := by decide +kernel
theorem dX13_mills_141 : decode cX13_mills 141 = .ok (.invokevirtual 132, 3) := by decide +kernel
theorem dX13_mills_144 : decode cX13_mills 144 = .ok (.istore 8, 2) := by decide +kernel
theorem dX13_mills_146 : decode cX13_mills 146 = .ok (.lload 5, 2) := by decide +kernel
theorem dX13_mills_148 : decode cX13_mills 148 = .ok (.bipush 10, 2) := by decide +kernel
theorem dX13_mills_150 : decode cX13_mills 150 = .ok (.iload 8, 2) := by decide +kernel
theorem dX13_mills_152 : decode cX13_mills 152 = .ok (.imul, 1) := by decide +kernel
theorem dX13_mills_153 : decode cX13_mills 153 = .ok (.aload_n 0, 1) := by decide +kernel
theorem dX13_mills_154 : decode cX13_mills 154 = .ok (.getfield 254, 3) := by decide +kernel
theorem dX13_mills_157 : decode cX13_mills 157 = .ok (.imul, 1) := by decide +kernel
theorem dX13_mills_158 : decode cX13_mills 158 = .ok (.bipush 100, 2) := by decide +kernel
theorem dX13_mills_160 : decode cX13_mills 160 = .ok (.idiv, 1) := by decide +kernel
theorem dX13_mills_161 : decode cX13_mills 161 = .ok (.i2l, 1) := by decide +kernel
theorem dX13_mills_162 : decode cX13_mills 162 = .ok (.ladd, 1) := by decide +kernel
theorem dX13_mills_163 : decode cX13_mills 163 = .ok (.lstore 5, 2) := by decide +kernel
theorem dX13_mills_165 : decode cX13_mills 165 = .ok (.goto (-44), 3) := by decide +kernel
theorem dX13_mills_168 : decode cX13_mills 168 = .ok (.aload_n 0, 1) := by decide +kernel
theorem dX13_mills_169 : decode cX13_mills 169 = .ok (.dup, 1) := by decide +kernel
theorem dX13_mills_170 : decode cX13_mills 170 = .ok (.getfield 257, 3) := by decide +kernel
theorem dX13_mills_173 : decode cX13_mills 173 = .ok (.lload 5, 2) := by decide +kernel
theorem dX13_mills_175 : decode cX13_mills 175 = .ok (.ladd, 1) := by decide +kernel
theorem dX13_mills_176 : decode cX13_mills 176 = .ok (.putfield 257, 3) := by decide +kernel
theorem dX13_mills_179 : decode cX13_mills 179 = .ok (.aload_n 0, 1) := by decide +kernel
theorem dX13_mills_180 : decode cX13_mills 180 = .ok (.dup, 1) := by decide +kernel
theorem dX13_mills_181 : decode cX13_mills 181 = .ok (.getfield 202, 3) := by decide +kernel
theorem dX13_mills_184 : decode cX13_mills 184 = .ok (.lload 5, 2) := by decide +kernel
theorem dX13_mills_186 : decode cX13_mills 186 = .ok (.aload_n 0, 1) := by decide +kernel
theorem dX13_mills_187 : decode cX13_mills 187 = .ok (.bipush 109, 2) := by decide +kernel
theorem dX13_mills_189 : decode cX13_mills 189 = .ok (.invokevirtual 178, 3) := by decide +kernel
theorem dX13_mills_192 : decode cX13_mills 192 = .ok (.i2l, 1) := by decide +kernel
theorem dX13_mills_193 : decode cX13_mills 193 = .ok (.lmul, 1) := by decide +kernel
theorem dX13_mills_194 : decode cX13_mills 194 = .ok (.ldc2_w 260, 3) := by decide +kernel
theorem dX13_mills_197 : decode cX13_mills 197 = .ok (.ldiv, 1) := by decide +kernel
theorem dX13_mills_198 : decode cX13_mills 198 = .ok (.ldc2_w 262, 3) := by decide +kernel
theorem dX13_mills_201 : decode cX13_mills 201 = .ok (.aload_n 1, 1) := by decide +kernel
theorem dX13_mills_202 : decode cX13_mills 202 = .ok (.invokeinterface 64 1, 5) := by decide +kernel
theorem dX13_mills_207 : decode cX13_mills 207 = .ok (.i2l, 1) := by decide +kernel
theorem dX13_mills_208 : decode cX13_mills 208 = .ok (.lmul, 1) := by decide +kernel
theorem dX13_mills_209 : decode cX13_mills 209 = .ok (.lsub, 1) := by decide +kernel
theorem dX13_mills_210 : decode cX13_mills 210 = .ok (.ladd, 1) := by decide +kernel
theorem dX13_mills_211 : decode cX13_mills 211 = .ok (.putfield 202, 3) := by decide +kernel
theorem dX13_mills_214 : decode cX13_mills 214 = .ok (.aload_n 0, 1) := by decide +kernel
theorem dX13_mills_215 : decode cX13_mills 215 = .ok (.dup, 1) := by decide +kernel
theorem dX13_mills_216 : decode cX13_mills 216 = .ok (.getfield 264, 3) := by decide +kernel
theorem dX13_mills_219 : decode cX13_mills 219 = .ok (.aload_n 1, 1) := by decide +kernel
theorem dX13_mills_220 : decode cX13_mills 220 = .ok (.invokeinterface 64 1, 5) := by decide +kernel
theorem dX13_mills_225 : decode cX13_mills 225 = .ok (.iadd, 1) := by decide +kernel
theorem dX13_mills_226 : decode cX13_mills 226 = .ok (.putfield 264, 3) := by decide +kernel
theorem dX13_mills_229 : decode cX13_mills 229 = .ok (.aload_n 0, 1) := by decide +kernel
theorem dX13_mills_230 : decode cX13_mills 230 = .ok (.dup, 1) := by decide +kernel
theorem dX13_mills_231 : decode cX13_mills 231 = .ok (.getfield 267, 3) := by decide +kernel
theorem dX13_mills_234 : decode cX13_mills 234 = .ok (.iload_n 2, 1) := by decide +kernel
theorem dX13_mills_235 : decode cX13_mills 235 = .ok (.iadd, 1) := by decide +kernel
theorem dX13_mills_236 : decode cX13_mills 236 = .ok (.putfield 267, 3) := by decide +kernel
theorem dX13_mills_239 : decode cX13_mills 239 = .ok (.return_, 1) := by decide +kernel
theorem dX13_goOn_0 : decode cX13_goOn 0 = .ok (.aload_n 0, 1) := by decide +kernel
theorem dX13_goOn_1 : decode cX13_goOn 1 = .ok (.iload_n 1, 1) := by decide +kernel
theorem dX13_goOn_2 : decode cX13_goOn 2 = .ok (.iconst 1, 1) := by decide +kernel
theorem dX13_goOn_3 : decode cX13_goOn 3 = .ok (.bipush 20, 2) := by decide +kernel
theorem dX13_goOn_5 : decode cX13_goOn 5 = .ok (.invokestatic 7, 3) := by decide +kernel
theorem dX13_goOn_8 : decode cX13_goOn 8 = .ok (.ifCond .eq 7, 3) := by decide +kernel
theorem dX13_goOn_11 : decode cX13_goOn 11 = .ok (.iconst 0, 1) := by decide +kernel
theorem dX13_goOn_12 : decode cX13_goOn 12 = .ok (.goto 4, 3) := by decide +kernel
theorem dX13_goOn_15 : decode cX13_goOn 15 = .ok (.iconst 1, 1) := by decide +kernel
theorem dX13_goOn_16 : decode cX13_goOn 16 = .ok (.invokevirtual 58, 3) := by decide +kernel
theorem dX13_goOn_19 : decode cX13_goOn 19 = .ok (.ifCond .eq 5, 3) := by decide +kernel
theorem dX13_goOn_22 : decode cX13_goOn 22 = .ok (.iconst 0, 1) := by decide +kernel
theorem dX13_goOn_23 : decode cX13_goOn 23 = .ok (.ireturn, 1) := by decide +kernel
theorem dX13_goOn_24 : decode cX13_goOn 24 = .ok (.aload_n 0, 1) := by decide +kernel
theorem dX13_goOn_25 : decode cX13_goOn 25 = .ok (.invokevirtual 270, 3) := by decide +kernel
theorem dX13_goOn_28 : decode cX13_goOn 28 = .ok (.istore_n 2, 1) := by decide +kernel
theorem dX13_goOn_29 : decode cX13_goOn 29 = .ok (.iconst 0, 1) := by decide +kernel
theorem dX13_goOn_30 : decode cX13_goOn 30 = .ok (.istore_n 3, 1) := by decide +kernel
theorem dX13_goOn_31 : decode cX13_goOn 31 = .ok (.iload_n 3, 1) := by decide +kernel
theorem dX13_goOn_32 : decode cX13_goOn 32 = .ok (.iload_n 1, 1) := by decide +kernel
theorem dX13_goOn_33 : decode cX13_goOn 33 = .ok (.if_icmp .ge 13, 3) := by decide +kernel
theorem dX13_goOn_36 : decode cX13_goOn 36 = .ok (.aload_n 0, 1) := by decide +kernel
theorem dX13_goOn_37 : decode cX13_goOn 37 = .ok (.invokevirtual 273, 3) := by decide +kernel
theorem dX13_goOn_40 : decode cX13_goOn 40 = .ok (.iinc 3 1, 3) := by decide +kernel
theorem dX13_goOn_43 : decode cX13_goOn 43 = .ok (.goto (-12), 3) := by decide +kernel
theorem dX13_goOn_46 : decode cX13_goOn 46 = .ok (.aload_n 0, 1) := by decide +kernel
theorem dX13_goOn_47 : decode cX13_goOn 47 = .ok (.invokevirtual 270, 3) := by decide +kernel
theorem dX13_goOn_50 : decode cX13_goOn 50 = .ok (.iload_n 2, 1) := by decide +kernel
theorem dX13_goOn_51 : decode cX13_goOn 51 = .ok (.isub, 1) := by decide +kernel
theorem dX13_goOn_52 : decode cX13_goOn 52 = .ok (.ireturn, 1) := by decide +kernel
theorem dX13_dug_0 : decode cX13_dug 0 = .ok (.iconst 0, 1) := by decide +kernel
theorem dX13_dug_1 : decode cX13_dug 1 = .ok (.istore_n 1, 1) := by decide +kernel
theorem dX13_dug_2 : decode cX13_dug 2 = .ok (.aload_n 0, 1) := by decide +kernel
theorem dX13_dug_3 : decode cX13_dug 3 = .ok (.getfield 20, 3) := by decide +kernel
theorem dX13_dug_6 : decode cX13_dug 6 = .ok (.invokeinterface 76 1, 5) := by decide +kernel
theorem dX13_dug_11 : decode cX13_dug 11 = .ok (.astore_n 2, 1) := by decide +kernel
theorem dX13_dug_12 : decode cX13_dug 12 = .ok (.aload_n 2, 1) := by decide +kernel
theorem dX13_dug_13 : decode cX13_dug 13 = .ok (.invokeinterface 80 1, 5) := by decide +kernel
theorem dX13_dug_18 : decode cX13_dug 18 = .ok (.ifCond .eq 31, 3) := by decide +kernel
theorem dX13_dug_21 : decode cX13_dug 21 = .ok (.aload_n 2, 1) := by decide +kernel
theorem dX13_dug_22 : decode cX13_dug 22 = .ok (.invokeinterface 86 1, 5) := by decide +kernel
theorem dX13_dug_27 : decode cX13_dug 27 = .ok (.checkcast 37, 3) := by decide +kernel
theorem dX13_dug_30 : decode cX13_dug 30 = .ok (.astore_n 3, 1) := by decide +kernel
theorem dX13_dug_31 : decode cX13_dug 31 = .ok (.iload_n 1, 1) := by decide +kernel
theorem dX13_dug_32 : decode cX13_dug 32 = .ok (.aload_n 3, 1) := by decide +kernel
theorem dX13_dug_33 : decode cX13_dug 33 = .ok (.getfield 54, 3) := by decide +kernel
theorem dX13_dug_36 : decode cX13_dug 36 = .ok (.ifCond .eq 7, 3) := by decide +kernel
theorem dX13_dug_39 : decode cX13_dug 39 = .ok (.iconst 1, 1) := by decide +kernel
theorem dX13_dug_40 : decode cX13_dug 40 = .ok (.goto 4, 3) := by decide +kernel
theorem dX13_dug_43 : decode cX13_dug 43 = .ok (.iconst 0, 1) := by decide +kernel
end
section
theorem dX13_dug_44 : decode cX13_dug 44 = .ok (.iadd, 1) := by decide +kernel
theorem dX13_dug_45 : decode cX13_dug 45 = .ok (.istore_n 1, 1) := by decide +kernel
theorem dX13_dug_46 : decode cX13_dug 46 = .ok (.goto (-34), 3) := by decide +kernel
theorem dX13_dug_49 : decode cX13_dug 49 = .ok (.iload_n 1, 1) := by decide +kernel
theorem dX13_dug_50 : decode cX13_dug 50 = .ok (.ireturn, 1) := by decide +kernel
theorem dX13_week_0 : decode cX13_week 0 = .ok (.aload_n 0, 1) := by decide +kernel
theorem dX13_week_1 : decode cX13_week 1 = .ok (.iconst 0, 1) := by decide +kernel
theorem dX13_week_2 : decode cX13_week 2 = .ok (.putfield 1, 3) := by decide +kernel
theorem dX13_week_5 : decode cX13_week 5 = .ok (.aload_n 0, 1) := by decide +kernel
theorem dX13_week_6 : decode cX13_week 6 = .ok (.getfield 208, 3) := by decide +kernel
theorem dX13_week_9 : decode cX13_week 9 = .ok (.ireturn, 1) := by decide +kernel
theorem dX13_isNotDug_0 : decode cX13_isNotDug 0 = .ok (.aload_n 0, 1) := by decide +kernel
theorem dX13_isNotDug_1 : decode cX13_isNotDug 1 = .ok (.iload_n 1, 1) := by decide +kernel
theorem dX13_isNotDug_2 : decode cX13_isNotDug 2 = .ok (.invokestatic 46, 3) := by decide +kernel
theorem dX13_isNotDug_5 : decode cX13_isNotDug 5 = .ok (.ifCond .ne 7, 3) := by decide +kernel
theorem dX13_isNotDug_8 : decode cX13_isNotDug 8 = .ok (.iconst 1, 1) := by decide +kernel
theorem dX13_isNotDug_9 : decode cX13_isNotDug 9 = .ok (.goto 27, 3) := by decide +kernel
theorem dX13_isNotDug_12 : decode cX13_isNotDug 12 = .ok (.aload_n 0, 1) := by decide +kernel
theorem dX13_isNotDug_13 : decode cX13_isNotDug 13 = .ok (.getfield 20, 3) := by decide +kernel
theorem dX13_isNotDug_16 : decode cX13_isNotDug 16 = .ok (.iload_n 1, 1) := by decide +kernel
theorem dX13_isNotDug_17 : decode cX13_isNotDug 17 = .ok (.invokeinterface 50 2, 5) := by decide +kernel
theorem dX13_isNotDug_22 : decode cX13_isNotDug 22 = .ok (.checkcast 37, 3) := by decide +kernel
theorem dX13_isNotDug_25 : decode cX13_isNotDug 25 = .ok (.getfield 54, 3) := by decide +kernel
theorem dX13_isNotDug_28 : decode cX13_isNotDug 28 = .ok (.ifCond .ne 7, 3) := by decide +kernel
theorem dX13_isNotDug_31 : decode cX13_isNotDug 31 = .ok (.iconst 2, 1) := by decide +kernel
theorem dX13_isNotDug_32 : decode cX13_isNotDug 32 = .ok (.goto 4, 3) := by decide +kernel
theorem dX13_isNotDug_35 : decode cX13_isNotDug 35 = .ok (.iconst 0, 1) := by decide +kernel
theorem dX13_isNotDug_36 : decode cX13_isNotDug 36 = .ok (.invokevirtual 58, 3) := by decide +kernel
theorem dX13_isNotDug_39 : decode cX13_isNotDug 39 = .ok (.ireturn, 1) := by decide +kernel
theorem dX13_wentTo_0 : decode cX13_wentTo 0 = .ok (.aload_n 0, 1) := by decide +kernel
theorem dX13_wentTo_1 : decode cX13_wentTo 1 = .ok (.iload_n 1, 1) := by decide +kernel
theorem dX13_wentTo_2 : decode cX13_wentTo 2 = .ok (.invokevirtual 276, 3) := by decide +kernel
theorem dX13_wentTo_5 : decode cX13_wentTo 5 = .ok (.ifCond .eq 7, 3) := by decide +kernel
theorem dX13_wentTo_8 : decode cX13_wentTo 8 = .ok (.iconst 0, 1) := by decide +kernel
theorem dX13_wentTo_9 : decode cX13_wentTo 9 = .ok (.goto 19, 3) := by decide +kernel
theorem dX13_wentTo_12 : decode cX13_wentTo 12 = .ok (.aload_n 0, 1) := by decide +kernel
theorem dX13_wentTo_13 : decode cX13_wentTo 13 = .ok (.getfield 20, 3) := by decide +kernel
theorem dX13_wentTo_16 : decode cX13_wentTo 16 = .ok (.iload_n 1, 1) := by decide +kernel
theorem dX13_wentTo_17 : decode cX13_wentTo 17 = .ok (.invokeinterface 50 2, 5) := by decide +kernel
theorem dX13_wentTo_22 : decode cX13_wentTo 22 = .ok (.checkcast 37, 3) := by decide +kernel
theorem dX13_wentTo_25 : decode cX13_wentTo 25 = .ok (.getfield 218, 3) := by decide +kernel
theorem dX13_wentTo_28 : decode cX13_wentTo 28 = .ok (.ireturn, 1) := by decide +kernel
theorem dX13_dugIn_0 : decode cX13_dugIn 0 = .ok (.aload_n 0, 1) := by decide +kernel
theorem dX13_dugIn_1 : decode cX13_dugIn 1 = .ok (.iload_n 1, 1) := by decide +kernel
theorem dX13_dugIn_2 : decode cX13_dugIn 2 = .ok (.invokevirtual 276, 3) := by decide +kernel
theorem dX13_dugIn_5 : decode cX13_dugIn 5 = .ok (.ifCond .eq 7, 3) := by decide +kernel
theorem dX13_dugIn_8 : decode cX13_dugIn 8 = .ok (.iconst 0, 1) := by decide +kernel
theorem dX13_dugIn_9 : decode cX13_dugIn 9 = .ok (.goto 19, 3) := by decide +kernel
theorem dX13_dugIn_12 : decode cX13_dugIn 12 = .ok (.aload_n 0, 1) := by decide +kernel
theorem dX13_dugIn_13 : decode cX13_dugIn 13 = .ok (.getfield 20, 3) := by decide +kernel
theorem dX13_dugIn_16 : decode cX13_dugIn 16 = .ok (.iload_n 1, 1) := by decide +kernel
theorem dX13_dugIn_17 : decode cX13_dugIn 17 = .ok (.invokeinterface 50 2, 5) := by decide +kernel
theorem dX13_dugIn_22 : decode cX13_dugIn 22 = .ok (.checkcast 37, 3) := by decide +kernel
theorem dX13_dugIn_25 : decode cX13_dugIn 25 = .ok (.getfield 217, 3) := by decide +kernel
theorem dX13_dugIn_28 : decode cX13_dugIn 28 = .ok (.ireturn, 1) := by decide +kernel
theorem dX13_stock_0 : decode cX13_stock 0 = .ok (.aload_n 0, 1) := by decide +kernel
theorem dX13_stock_1 : decode cX13_stock 1 = .ok (.iconst 0, 1) := by decide +kernel
theorem dX13_stock_2 : decode cX13_stock 2 = .ok (.putfield 1, 3) := by decide +kernel
theorem dX13_stock_5 : decode cX13_stock 5 = .ok (.aload_n 0, 1) := by decide +kernel
theorem dX13_stock_6 : decode cX13_stock 6 = .ok (.getfield 189, 3) := by decide +kernel
theorem dX13_stock_9 : decode cX13_stock 9 = .ok (.ireturn, 1) := by decide +kernel
theorem dX13_stockGrades_0 : decode cX13_stockGrades 0 = .ok (.aload_n 0, 1) := by decide +kernel
theorem dX13_stockGrades_1 : decode cX13_stockGrades 1 = .ok (.iconst 0, 1) := by decide +kernel
theorem dX13_stockGrades_2 : decode cX13_stockGrades 2 = .ok (.putfield 1, 3) := by decide +kernel
theorem dX13_stockGrades_5 : decode cX13_stockGrades 5 = .ok (.aload_n 0, 1) := by decide +kernel
theorem dX13_stockGrades_6 : decode cX13_stockGrades 6 = .ok (.getfield 225, 3) := by decide +kernel
theorem dX13_stockGrades_9 : decode cX13_stockGrades 9 = .ok (.ireturn, 1) := by decide +kernel
theorem dX13_water_0 : decode cX13_water 0 = .ok (.aload_n 0, 1) := by decide +kernel
theorem dX13_water_1 : decode cX13_water 1 = .ok (.iconst 0, 1) := by decide +kernel
theorem dX13_water_2 : decode cX13_water 2 = .ok (.putfield 1, 3) := by decide +kernel
theorem dX13_water_5 : decode cX13_water 5 = .ok (.aload_n 0, 1) := by decide +kernel
theorem dX13_water_6 : decode cX13_water 6 = .ok (.getfield 172, 3) := by decide +kernel
theorem dX13_water_9 : decode cX13_water 9 = .ok (.ireturn, 1) := by decide +kernel
theorem dX13_recovery_0 : decode cX13_recovery 0 = .ok (.aload_n 0, 1) := by decide +kernel
theorem dX13_recovery_1 : decode cX13_recovery 1 = .ok (.aload_n 0, 1) := by decide +kernel
theorem dX13_recovery_2 : decode cX13_recovery 2 = .ok (.getfield 237, 3) := by decide +kernel
theorem dX13_recovery_5 : decode cX13_recovery 5 = .ok (.ifCond .eq 7, 3) := by decide +kernel
theorem dX13_recovery_8 : decode cX13_recovery 8 = .ok (.iconst 0, 1) := by decide +kernel
theorem dX13_recovery_9 : decode cX13_recovery 9 = .ok (.goto 4, 3) := by decide +kernel
theorem dX13_recovery_12 : decode cX13_recovery 12 = .ok (.iconst 1, 1) := by decide +kernel
theorem dX13_recovery_13 : decode cX13_recovery 13 = .ok (.invokevirtual 58, 3) := by decide +kernel
theorem dX13_recovery_16 : decode cX13_recovery 16 = .ok (.ifCond .eq 7, 3) := by decide +kernel
theorem dX13_recovery_19 : decode cX13_recovery 19 = .ok (.iconst 0, 1) := by decide +kernel
theorem dX13_recovery_20 : decode cX13_recovery 20 = .ok (.goto 7, 3) := by decide +kernel
theorem dX13_recovery_23 : decode cX13_recovery 23 = .ok (.aload_n 0, 1) := by decide +kernel
theorem dX13_recovery_24 : decode cX13_recovery 24 = .ok (.getfield 254, 3) := by decide +kernel
theorem dX13_recovery_27 : decode cX13_recovery 27 = .ok (.ireturn, 1) := by decide +kernel
theorem dX13_metal_0 : decode cX13_metal 0 = .ok (.aload_n 0, 1) := by decide +kernel
theorem dX13_metal_1 : decode cX13_metal 1 = .ok (.iconst 0, 1) := by decide +kernel
theorem dX13_metal_2 : decode cX13_metal 2 = .ok (.putfield 1, 3) := by decide +kernel
theorem dX13_metal_5 : decode cX13_metal 5 = .ok (.aload_n 0, 1) := by decide +kernel
theorem dX13_metal_6 : decode cX13_metal 6 = .ok (.getfield 257, 3) := by decide +kernel
theorem dX13_metal_9 : decode cX13_metal 9 = .ok (.lreturn, 1) := by decide +kernel
theorem dX13_money_0 : decode cX13_money 0 = .ok (.aload_n 0, 1) := by decide +kernel
theorem dX13_money_1 : decode cX13_money 1 = .ok (.iconst 0, 1) := by decide +kernel
theorem dX13_money_2 : decode cX13_money 2 = .ok (.putfield 1, 3) := by decide +kernel
theorem dX13_money_5 : decode cX13_money 5 = .ok (.aload_n 0, 1) := by decide +kernel
theorem dX13_money_6 : decode cX13_money 6 = .ok (.getfield 202, 3) := by decide +kernel
theorem dX13_money_9 : decode cX13_money 9 = .ok (.lreturn, 1) := by decide +kernel
theorem dX13_tons_0 : decode cX13_tons 0 = .ok (.aload_n 0, 1) := by decide +kernel
theorem dX13_tons_1 : decode cX13_tons 1 = .ok (.iload_n 1, 1) := by decide +kernel
theorem dX13_tons_2 : decode cX13_tons 2 = .ok (.bipush 112, 2) := by decide +kernel
theorem dX13_tons_4 : decode cX13_tons 4 = .ok (.if_icmp .eq 15, 3) := by decide +kernel
theorem dX13_tons_7 : decode cX13_tons 7 = .ok (.iload_n 1, 1) := by decide +kernel
theorem dX13_tons_8 : decode cX13_tons 8 = .ok (.bipush 115, 2) := by decide +kernel
theorem dX13_tons_10 : decode cX13_tons 10 = .ok (.if_icmp .eq 9, 3) := by decide +kernel
theorem dX13_tons_13 : decode cX13_tons 13 = .ok (.iload_n 1, 1) := by decide +kernel
theorem dX13_tons_14 : decode cX13_tons 14 = .ok (.bipush 100, 2) := by decide +kernel
theorem dX13_tons_16 : decode cX13_tons 16 = .ok (.if_icmp .ne 7, 3) := by decide +kernel
theorem dX13_tons_19 : decode cX13_tons 19 = .ok (.iconst 0, 1) := by decide +kernel
theorem dX13_tons_20 : decode cX13_tons 20 = .ok (.goto 4, 3) := by decide +kernel
theorem dX13_tons_23 : decode cX13_tons 23 = .ok (.iconst 1, 1) := by decide +kernel
theorem dX13_tons_24 : decode cX13_tons 24 = .ok (.invokevirtual 58, 3) := by decide +kernel
theorem dX13_tons_27 : decode cX13_tons 27 = .ok (.ifCond .eq 5, 3) := by decide +kernel
theorem dX13_tons_30 : decode cX13_tons 30 = .ok (.iconst 0, 1) := by decide +kernel
theorem dX13_tons_31 : decode cX13_tons 31 = .ok (.ireturn, 1) := by decide +kernel
theorem dX13_tons_32 : decode cX13_tons 32 = .ok (.bipush 10, 2) := by decide +kernel
theorem dX13_tons_34 : decode cX13_tons 34 = .ok (.iload_n 1, 1) := by decide +kernel
theorem dX13_tons_35 : decode cX13_tons 35 = .ok (.bipush 112, 2) := by decide +kernel
theorem dX13_tons_37 : decode cX13_tons 37 = .ok (.if_icmp .ne 10, 3) := by decide +kernel
theorem dX13_tons_40 : decode cX13_tons 40 = .ok (.aload_n 0, 1) := by decide +kernel
theorem dX13_tons_41 : decode cX13_tons 41 = .ok (.getfield 264, 3) := by decide +kernel
theorem dX13_tons_44 : decode cX13_tons 44 = .ok (.goto 20, 3) := by decide +kernel
theorem dX13_tons_47 : decode cX13_tons 47 = .ok (.iload_n 1, 1) := by decide +kernel
theorem dX13_tons_48 : decode cX13_tons 48 = .ok (.bipush 115, 2) := by decide +kernel
theorem dX13_tons_50 : decode cX13_tons 50 = .ok (.if_icmp .ne 10, 3) := by decide +kernel
theorem dX13_tons_53 : decode cX13_tons 53 = .ok (.aload_n 0, 1) := by decide +kernel
theorem dX13_tons_54 : decode cX13_tons 54 = .ok (.getfield 189, 3) := by decide +kernel
theorem dX13_tons_57 : decode cX13_tons 57 = .ok (.goto 7, 3) := by decide +kernel
theorem dX13_tons_60 : decode cX13_tons 60 = .ok (.aload_n 0, 1) := by decide +kernel
theorem dX13_tons_61 : decode cX13_tons 61 = .ok (.getfield 222, 3) := by decide +kernel
theorem dX13_tons_64 : decode cX13_tons 64 = .ok (.imul, 1) := by decide +kernel
theorem dX13_tons_65 : decode cX13_tons 65 = .ok (.ireturn, 1) := by decide +kernel
theorem dX13_factor_0 : decode cX13_factor 0 = .ok (.aload_n 0, 1) := by decide +kernel
theorem dX13_factor_1 : decode cX13_factor 1 = .ok (.aload_n 0, 1) := by decide +kernel
theorem dX13_factor_2 : decode cX13_factor 2 = .ok (.getfield 211, 3) := by decide +kernel
theorem dX13_factor_5 : decode cX13_factor 5 = .ok (.ifCond .ne 7, 3) := by decide +kernel
theorem dX13_factor_8 : decode cX13_factor 8 = .ok (.iconst 1, 1) := by decide +kernel
theorem dX13_factor_9 : decode cX13_factor 9 = .ok (.goto 4, 3) := by decide +kernel
theorem dX13_factor_12 : decode cX13_factor 12 = .ok (.iconst 0, 1) := by decide +kernel
theorem dX13_factor_13 : decode cX13_factor 13 = .ok (.invokevirtual 58, 3) := by decide +kernel
theorem dX13_factor_16 : decode cX13_factor 16 = .ok (.ifCond .eq 7, 3) := by decide +kernel
theorem dX13_factor_19 : decode cX13_factor 19 = .ok (.iconst 0, 1) := by decide +kernel
theorem dX13_factor_20 : decode cX13_factor 20 = .ok (.goto 15, 3) := by decide +kernel
theorem dX13_factor_23 : decode cX13_factor 23 = .ok (.bipush 100, 2) := by decide +kernel
theorem dX13_factor_25 : decode cX13_factor 25 = .ok (.aload_n 0, 1) := by decide +kernel
theorem dX13_factor_26 : decode cX13_factor 26 = .ok (.getfield 214, 3) := by decide +kernel
theorem dX13_factor_29 : decode cX13_factor 29 = .ok (.imul, 1) := by decide +kernel
theorem dX13_factor_30 : decode cX13_factor 30 = .ok (.aload_n 0, 1) := by decide +kernel
theorem dX13_factor_31 : decode cX13_factor 31 = .ok (.getfield 211, 3) := by decide +kernel
theorem dX13_factor_34 : decode cX13_factor 34 = .ok (.idiv, 1) := by decide +kernel
theorem dX13_factor_35 : decode cX13_factor 35 = .ok (.ireturn, 1) := by decide +kernel
theorem dX13_isBalanced_0 : decode cX13_isBalanced 0 = .ok (.aload_n 0, 1) := by decide +kernel
theorem dX13_isBalanced_1 : decode cX13_isBalanced 1 = .ok (.iconst 0, 1) := by decide +kernel
theorem dX13_isBalanced_2 : decode cX13_isBalanced 2 = .ok (.putfield 1, 3) := by decide +kernel
theorem dX13_isBalanced_5 : decode cX13_isBalanced 5 = .ok (.iconst 1, 1) := by decide +kernel
theorem dX13_isBalanced_6 : decode cX13_isBalanced 6 = .ok (.ireturn, 1) := by decide +kernel
theorem dX13_dugShare_0 : decode cX13_dugShare 0 = .ok (.aload_n 0, 1) := by decide +kernel
theorem dX13_dugShare_1 : decode cX13_dugShare 1 = .ok (.iconst 0, 1) := by decide +kernel
theorem dX13_dugShare_2 : decode cX13_dugShare 2 = .ok (.putfield 1, 3) := by decide +kernel
theorem dX13_dugShare_5 : decode cX13_dugShare 5 = .ok (.aload_n 0, 1) := by decide +kernel
theorem dX13_dugShare_6 : decode cX13_dugShare 6 = .ok (.invokevirtual 270, 3) := by decide +kernel
theorem dX13_dugShare_9 : decode cX13_dugShare 9 = .ok (.i2f, 1) := by decide +kernel
theorem dX13_dugShare_10 : decode cX13_dugShare 10 = .ok (.ldc_w 279, 3) := by decide +kernel
theorem dX13_dugShare_13 : decode cX13_dugShare 13 = .ok (.fdiv, 1) := by decide +kernel
theorem dX13_dugShare_14 : decode cX13_dugShare 14 = .ok (.freturn, 1) := by decide +kernel
theorem dX13_meanFed_0 : decode cX13_meanFed 0 = .ok (.aload_n 0, 1) := by decide +kernel
theorem dX13_meanFed_1 : decode cX13_meanFed 1 = .ok (.aload_n 0, 1) := by decide +kernel
theorem dX13_meanFed_2 : decode cX13_meanFed 2 = .ok (.getfield 264, 3) := by decide +kernel
theorem dX13_meanFed_5 : decode cX13_meanFed 5 = .ok (.ifCond .ne 7, 3) := by decide +kernel
theorem dX13_meanFed_8 : decode cX13_meanFed 8 = .ok (.iconst 1, 1) := by decide +kernel
theorem dX13_meanFed_9 : decode cX13_meanFed 9 = .ok (.goto 4, 3) := by decide +kernel
theorem dX13_meanFed_12 : decode cX13_meanFed 12 = .ok (.iconst 0, 1) := by decide +kernel
theorem dX13_meanFed_13 : decode cX13_meanFed 13 = .ok (.invokevirtual 58, 3) := by decide +kernel
theorem dX13_meanFed_16 : decode cX13_meanFed 16 = .ok (.ifCond .eq 7, 3) := by decide +kernel
theorem dX13_meanFed_19 : decode cX13_meanFed 19 = .ok (.dconst 0, 1) := by decide +kernel
theorem dX13_meanFed_20 : decode cX13_meanFed 20 = .ok (.goto 14, 3) := by decide +kernel
theorem dX13_meanFed_23 : decode cX13_meanFed 23 = .ok (.aload_n 0, 1) := by decide +kernel
theorem dX13_meanFed_24 : decode cX13_meanFed 24 = .ok (.getfield 267, 3) := by decide +kernel
theorem dX13_meanFed_27 : decode cX13_meanFed 27 = .ok (.i2d, 1) := by decide +kernel
theorem dX13_meanFed_28 : decode cX13_meanFed 28 = .ok (.aload_n 0, 1) := by decide +kernel
theorem dX13_meanFed_29 : decode cX13_meanFed 29 = .ok (.getfield 264, 3) := by decide +kernel
theorem dX13_meanFed_32 : decode cX13_meanFed 32 = .ok (.i2d, 1) := by decide +kernel
theorem dX13_meanFed_33 : decode cX13_meanFed 33 = .ok (.ddiv, 1) := by decide +kernel
theorem dX13_meanFed_34 : decode cX13_meanFed 34 = .ok (.dreturn, 1) := by decide +kernel
theorem dJx00060_init_a7421_0 : decode cJx00060_init_a7421 0 = .ok (.aload_n 0, 1) := by decide +kernel
theorem dJx00060_init_a7421_1 : decode cJx00060_init_a7421 1 = .ok (.aload_n 1, 1) := by decide +kernel
theorem dJx00060_init_a7421_2 : decode cJx00060_init_a7421 2 = .ok (.invokespecial 7, 3) := by decide +kernel
theorem dJx00060_init_a7421_5 : decode cJx00060_init_a7421 5 = .ok (.return_, 1) := by decide +kernel
theorem dJ11_isValidCodePoint_9a6ad_0 : decode cJ11_isValidCodePoint_9a6ad 0 = .ok (.iload_n 0, 1) := by decide +kernel
theorem dJ11_isValidCodePoint_9a6ad_1 : decode cJ11_isValidCodePoint_9a6ad 1 = .ok (.bipush 16, 2) := by decide +kernel
theorem dJ11_isValidCodePoint_9a6ad_3 : decode cJ11_isValidCodePoint_9a6ad 3 = .ok (.iushr, 1) := by decide +kernel
theorem dJ11_isValidCodePoint_9a6ad_4 : decode cJ11_isValidCodePoint_9a6ad 4 = .ok (.istore_n 1, 1) := by decide +kernel
theorem dJ11_isValidCodePoint_9a6ad_5 : decode cJ11_isValidCodePoint_9a6ad 5 = .ok (.iload_n 1, 1) := by decide +kernel
theorem dJ11_isValidCodePoint_9a6ad_6 : decode cJ11_isValidCodePoint_9a6ad 6 = .ok (.bipush 17, 2) := by decide +kernel
theorem dJ11_isValidCodePoint_9a6ad_8 : decode cJ11_isValidCodePoint_9a6ad 8 = .ok (.if_icmp .ge 7, 3) := by decide +kernel
theorem dJ11_isValidCodePoint_9a6ad_11 : decode cJ11_isValidCodePoint_9a6ad 11 = .ok (.iconst 1, 1) := by decide +kernel
theorem dJ11_isValidCodePoint_9a6ad_12 : decode cJ11_isValidCodePoint_9a6ad 12 = .ok (.goto 4, 3) := by decide +kernel
theorem dJ11_isValidCodePoint_9a6ad_15 : decode cJ11_isValidCodePoint_9a6ad 15 = .ok (.iconst 0, 1) := by decide +kernel
theorem dJ11_isValidCodePoint_9a6ad_16 : decode cJ11_isValidCodePoint_9a6ad 16 = .ok (.ireturn, 1) := by decide +kernel
theorem dJ11_highSurrogate_5068e_0 : decode cJ11_highSurrogate_5068e 0 = .ok (.iload_n 0, 1) := by decide +kernel
theorem dJ11_highSurrogate_5068e_1 : decode cJ11_highSurrogate_5068e 1 = .ok (.bipush 10, 2) := by decide +kernel
theorem dJ11_highSurrogate_5068e_3 : decode cJ11_highSurrogate_5068e 3 = .ok (.iushr, 1) := by decide +kernel
theorem dJ11_highSurrogate_5068e_4 : decode cJ11_highSurrogate_5068e 4 = .ok (.ldc 110, 2) := by decide +kernel
theorem dJ11_highSurrogate_5068e_6 : decode cJ11_highSurrogate_5068e 6 = .ok (.iadd, 1) := by decide +kernel
theorem dJ11_highSurrogate_5068e_7 : decode cJ11_highSurrogate_5068e 7 = .ok (.i2c, 1) := by decide +kernel
theorem dJ11_highSurrogate_5068e_8 : decode cJ11_highSurrogate_5068e 8 = .ok (.ireturn, 1) := by decide +kernel
theorem dJ11_lowSurrogate_5068e_0 : decode cJ11_lowSurrogate_5068e 0 = .ok (.iload_n 0, 1) := by decide +kernel
theorem dJ11_lowSurrogate_5068e_1 : decode cJ11_lowSurrogate_5068e 1 = .ok (.sipush 1023, 3) := by decide +kernel
theorem dJ11_lowSurrogate_5068e_4 : decode cJ11_lowSurrogate_5068e 4 = .ok (.iand, 1) := by decide +kernel
theorem dJ11_lowSurrogate_5068e_5 : decode cJ11_lowSurrogate_5068e 5 = .ok (.ldc 76, 2) := by decide +kernel
theorem dJ11_lowSurrogate_5068e_7 : decode cJ11_lowSurrogate_5068e 7 = .ok (.iadd, 1) := by decide +kernel
theorem dJ11_lowSurrogate_5068e_8 : decode cJ11_lowSurrogate_5068e 8 = .ok (.i2c, 1) := by decide +kernel
theorem dJ11_lowSurrogate_5068e_9 : decode cJ11_lowSurrogate_5068e 9 = .ok (.ireturn, 1) := by decide +kernel
theorem dJ6_valueOf_2dffe_0 : decode cJ6_valueOf_2dffe 0 = .ok (.iload_n 0, 1) := by decide +kernel
theorem dJ6_valueOf_2dffe_1 : decode cJ6_valueOf_2dffe 1 = .ok (.bipush (-128), 2) := by decide +kernel
theorem dJ6_valueOf_2dffe_3 : decode cJ6_valueOf_2dffe 3 = .ok (.if_icmp .lt 20, 3) := by decide +kernel
theorem dJ6_valueOf_2dffe_6 : decode cJ6_valueOf_2dffe 6 = .ok (.iload_n 0, 1) := by decide +kernel
theorem dJ6_valueOf_2dffe_7 : decode cJ6_valueOf_2dffe 7 = .ok (.getstatic 191, 3) := by decide +kernel
theorem dJ6_valueOf_2dffe_10 : decode cJ6_valueOf_2dffe 10 = .ok (.if_icmp .gt 13, 3) := by decide +kernel
theorem dJ6_valueOf_2dffe_13 : decode cJ6_valueOf_2dffe 13 = .ok (.getstatic 195, 3) := by decide +kernel
theorem dJ6_valueOf_2dffe_16 : decode cJ6_valueOf_2dffe 16 = .ok (.iload_n 0, 1) := by decide +kernel
theorem dJ6_valueOf_2dffe_17 : decode cJ6_valueOf_2dffe 17 = .ok (.sipush 128, 3) := by decide +kernel
theorem dJ6_valueOf_2dffe_20 : decode cJ6_valueOf_2dffe 20 = .ok (.iadd, 1) := by decide +kernel
theorem dJ6_valueOf_2dffe_21 : decode cJ6_valueOf_2dffe 21 = .ok (.aaload, 1) := by decide +kernel
theorem dJ6_valueOf_2dffe_22 : decode cJ6_valueOf_2dffe 22 = .ok (.areturn, 1) := by decide +kernel
theorem dJ6_valueOf_2dffe_23 : decode cJ6_valueOf_2dffe 23 = .ok (.new 1, 3) := by decide +kernel
theorem dJ6_valueOf_2dffe_26 : decode cJ6_valueOf_2dffe 26 = .ok (.dup, 1) := by decide +kernel
theorem dJ6_valueOf_2dffe_27 : decode cJ6_valueOf_2dffe 27 = .ok (.iload_n 0, 1) := by decide +kernel
theorem dJ6_valueOf_2dffe_28 : decode cJ6_valueOf_2dffe 28 = .ok (.invokespecial 199, 3) := by decide +kernel
theorem dJ6_valueOf_2dffe_31 : decode cJ6_valueOf_2dffe 31 = .ok (.areturn, 1) := by decide +kernel
theorem dJ6_init_d00df_0 : decode cJ6_init_d00df 0 = .ok (.aload_n 0, 1) := by decide +kernel
theorem dJ6_init_d00df_1 : decode cJ6_init_d00df 1 = .ok (.invokespecial 202, 3) := by decide +kernel
theorem dJ6_init_d00df_4 : decode cJ6_init_d00df 4 = .ok (.aload_n 0, 1) := by decide +kernel
theorem dJ6_init_d00df_5 : decode cJ6_init_d00df 5 = .ok (.iload_n 1, 1) := by decide +kernel
theorem dJ6_init_d00df_6 : decode cJ6_init_d00df 6 = .ok (.putfield 205, 3) := by decide +kernel
theorem dJ6_init_d00df_9 : decode cJ6_init_d00df 9 = .ok (.return_, 1) := by decide +kernel
theorem dJ6_intValue_8abf5_0 : decode cJ6_intValue_8abf5 0 = .ok (.aload_n 0, 1) := by decide +kernel
theorem dJ6_intValue_8abf5_1 : decode cJ6_intValue_8abf5 1 = .ok (.getfield 205, 3) := by decide +kernel
theorem dJ6_intValue_8abf5_4 : decode cJ6_intValue_8abf5 4 = .ok (.ireturn, 1) := by decide +kernel
theorem dJ9_rint_294c1_0 : decode cJ9_rint_294c1 0 = .ok (.dload_n 0, 1) := by decide +kernel
theorem dJ9_rint_294c1_1 : decode cJ9_rint_294c1 1 = .ok (.invokestatic 59, 3) := by decide +kernel
theorem dJ9_rint_294c1_4 : decode cJ9_rint_294c1 4 = .ok (.dreturn, 1) := by decide +kernel
theorem dJ9_abs_294c1_0 : decode cJ9_abs_294c1 0 = .ok (.dload_n 0, 1) := by decide +kernel
theorem dJ9_abs_294c1_1 : decode cJ9_abs_294c1 1 = .ok (.invokestatic 79, 3) := by decide +kernel
theorem dJ9_abs_294c1_4 : decode cJ9_abs_294c1 4 = .ok (.ldc2_w 135, 3) := by decide +kernel
theorem dJ9_abs_294c1_7 : decode cJ9_abs_294c1 7 = .ok (.land, 1) := by decide +kernel
theorem dJ9_abs_294c1_8 : decode cJ9_abs_294c1 8 = .ok (.invokestatic 166, 3) := by decide +kernel
theorem dJ9_abs_294c1_11 : decode cJ9_abs_294c1 11 = .ok (.dreturn, 1) := by decide +kernel
theorem dJ9_max_7cf53_0 : decode cJ9_max_7cf53 0 = .ok (.iload_n 0, 1) := by decide +kernel
theorem dJ9_max_7cf53_1 : decode cJ9_max_7cf53 1 = .ok (.iload_n 1, 1) := by decide +kernel
theorem dJ9_max_7cf53_2 : decode cJ9_max_7cf53 2 = .ok (.if_icmp .lt 7, 3) := by decide +kernel
theorem dJ9_max_7cf53_5 : decode cJ9_max_7cf53 5 = .ok (.iload_n 0, 1) := by decide +kernel
theorem dJ9_max_7cf53_6 : decode cJ9_max_7cf53 6 = .ok (.goto 4, 3) := by decide +kernel
theorem dJ9_max_7cf53_9 : decode cJ9_max_7cf53 9 = .ok (.iload_n 1, 1) := by decide +kernel
theorem dJ9_max_7cf53_10 : decode cJ9_max_7cf53 10 = .ok (.ireturn, 1) := by decide +kernel
theorem dJ9_max_eb370_0 : decode cJ9_max_eb370 0 = .ok (.dload_n 0, 1) := by decide +kernel
theorem dJ9_max_eb370_1 : decode cJ9_max_eb370 1 = .ok (.dload_n 0, 1) := by decide +kernel
theorem dJ9_max_eb370_2 : decode cJ9_max_eb370 2 = .ok (.dcmp .l, 1) := by decide +kernel
theorem dJ9_max_eb370_3 : decode cJ9_max_eb370 3 = .ok (.ifCond .eq 5, 3) := by decide +kernel
theorem dJ9_max_eb370_6 : decode cJ9_max_eb370 6 = .ok (.dload_n 0, 1) := by decide +kernel
theorem dJ9_max_eb370_7 : decode cJ9_max_eb370 7 = .ok (.dreturn, 1) := by decide +kernel
theorem dJ9_max_eb370_8 : decode cJ9_max_eb370 8 = .ok (.dload_n 0, 1) := by decide +kernel
theorem dJ9_max_eb370_9 : decode cJ9_max_eb370 9 = .ok (.dconst 0, 1) := by decide +kernel
theorem dJ9_max_eb370_10 : decode cJ9_max_eb370 10 = .ok (.dcmp .l, 1) := by decide +kernel
theorem dJ9_max_eb370_11 : decode cJ9_max_eb370 11 = .ok (.ifCond .ne 22, 3) := by decide +kernel
theorem dJ9_max_eb370_14 : decode cJ9_max_eb370 14 = .ok (.dload_n 2, 1) := by decide +kernel
theorem dJ9_max_eb370_15 : decode cJ9_max_eb370 15 = .ok (.dconst 0, 1) := by decide +kernel
theorem dJ9_max_eb370_16 : decode cJ9_max_eb370 16 = .ok (.dcmp .l, 1) := by decide +kernel
theorem dJ9_max_eb370_17 : decode cJ9_max_eb370 17 = .ok (.ifCond .ne 16, 3) := by decide +kernel
theorem dJ9_max_eb370_20 : decode cJ9_max_eb370 20 = .ok (.dload_n 0, 1) := by decide +kernel
theorem dJ9_max_eb370_21 : decode cJ9_max_eb370 21 = .ok (.invokestatic 79, 3) := by decide +kernel
theorem dJ9_max_eb370_24 : decode cJ9_max_eb370 24 = .ok (.getstatic 174, 3) := by decide +kernel
theorem dJ9_max_eb370_27 : decode cJ9_max_eb370 27 = .ok (.lcmp, 1) := by decide +kernel
theorem dJ9_max_eb370_28 : decode cJ9_max_eb370 28 = .ok (.ifCond .ne 5, 3) := by decide +kernel
theorem dJ9_max_eb370_31 : decode cJ9_max_eb370 31 = .ok (.dload_n 2, 1) := by decide +kernel
theorem dJ9_max_eb370_32 : decode cJ9_max_eb370 32 = .ok (.dreturn, 1) := by decide +kernel
theorem dJ9_max_eb370_33 : decode cJ9_max_eb370 33 = .ok (.dload_n 0, 1) := by decide +kernel
theorem dJ9_max_eb370_34 : decode cJ9_max_eb370 34 = .ok (.dload_n 2, 1) := by decide +kernel
theorem dJ9_max_eb370_35 : decode cJ9_max_eb370 35 = .ok (.dcmp .l, 1) := by decide +kernel
theorem dJ9_max_eb370_36 : decode cJ9_max_eb370 36 = .ok (.ifCond .lt 7, 3) := by decide +kernel
theorem dJ9_max_eb370_39 : decode cJ9_max_eb370 39 = .ok (.dload_n 0, 1) := by decide +kernel
theorem dJ9_max_eb370_40 : decode cJ9_max_eb370 40 = .ok (.goto 4, 3) := by decide +kernel
theorem dJ9_max_eb370_43 : decode cJ9_max_eb370 43 = .ok (.dload_n 2, 1) := by decide +kernel
theorem dJ9_max_eb370_44 : decode cJ9_max_eb370 44 = .ok (.dreturn, 1) := by decide +kernel
theorem dJ9_min_7cf53_0 : decode cJ9_min_7cf53 0 = .ok (.iload_n 0, 1) := by decide +kernel
theorem dJ9_min_7cf53_1 : decode cJ9_min_7cf53 1 = .ok (.iload_n 1, 1) := by decide +kernel
theorem dJ9_min_7cf53_2 : decode cJ9_min_7cf53 2 = .ok (.if_icmp .gt 7, 3) := by decide +kernel
theorem dJ9_min_7cf53_5 : decode cJ9_min_7cf53 5 = .ok (.iload_n 0, 1) := by decide +kernel
theorem dJ9_min_7cf53_6 : decode cJ9_min_7cf53 6 = .ok (.goto 4, 3) := by decide +kernel
theorem dJ9_min_7cf53_9 : decode cJ9_min_7cf53 9 = .ok (.iload_n 1, 1) := by decide +kernel
theorem dJ9_min_7cf53_10 : decode cJ9_min_7cf53 10 = .ok (.ireturn, 1) := by decide +kernel
theorem dJ9_copySign_eb370_0 : decode cJ9_copySign_eb370 0 = .ok (.dload_n 2, 1) := by decide +kernel
theorem dJ9_copySign_eb370_1 : decode cJ9_copySign_eb370 1 = .ok (.invokestatic 79, 3) := by decide +kernel
theorem dJ9_copySign_eb370_4 : decode cJ9_copySign_eb370 4 = .ok (.ldc2_w 128, 3) := by decide +kernel
theorem dJ9_copySign_eb370_7 : decode cJ9_copySign_eb370 7 = .ok (.land, 1) := by decide +kernel
theorem dJ9_copySign_eb370_8 : decode cJ9_copySign_eb370 8 = .ok (.dload_n 0, 1) := by decide +kernel
theorem dJ9_copySign_eb370_9 : decode cJ9_copySign_eb370 9 = .ok (.invokestatic 79, 3) := by decide +kernel
theorem dJ9_copySign_eb370_12 : decode cJ9_copySign_eb370 12 = .ok (.ldc2_w 135, 3) := by decide +kernel
theorem dJ9_copySign_eb370_15 : decode cJ9_copySign_eb370 15 = .ok (.land, 1) := by decide +kernel
theorem dJ9_copySign_eb370_16 : decode cJ9_copySign_eb370 16 = .ok (.lor, 1) := by decide +kernel
theorem dJ9_copySign_eb370_17 : decode cJ9_copySign_eb370 17 = .ok (.invokestatic 166, 3) := by decide +kernel
theorem dJ9_copySign_eb370_20 : decode cJ9_copySign_eb370 20 = .ok (.dreturn, 1) := by decide +kernel
theorem dJxd2413_init_da8c8_0 : decode cJxd2413_init_da8c8 0 = .ok (.aload_n 0, 1) := by decide +kernel
theorem dJxd2413_init_da8c8_1 : decode cJxd2413_init_da8c8 1 = .ok (.invokespecial 1, 3) := by decide +kernel
theorem dJxd2413_init_da8c8_4 : decode cJxd2413_init_da8c8 4 = .ok (.return_, 1) := by decide +kernel
theorem dJxfc994_rint_294c1_0 : decode cJxfc994_rint_294c1 0 = .ok (.ldc2_w 93, 3) := by decide +kernel
theorem dJxfc994_rint_294c1_3 : decode cJxfc994_rint_294c1 3 = .ok (.dstore_n 2, 1) := by decide +kernel
theorem dJxfc994_rint_294c1_4 : decode cJxfc994_rint_294c1 4 = .ok (.dconst 1, 1) := by decide +kernel
theorem dJxfc994_rint_294c1_5 : decode cJxfc994_rint_294c1 5 = .ok (.dload_n 0, 1) := by decide +kernel
theorem dJxfc994_rint_294c1_6 : decode cJxfc994_rint_294c1 6 = .ok (.invokestatic 95, 3) := by decide +kernel
theorem dJxfc994_rint_294c1_9 : decode cJxfc994_rint_294c1 9 = .ok (.dstore 4, 2) := by decide +kernel
theorem dJxfc994_rint_294c1_11 : decode cJxfc994_rint_294c1 11 = .ok (.dload_n 0, 1) := by decide +kernel
theorem dJxfc994_rint_294c1_12 : decode cJxfc994_rint_294c1 12 = .ok (.invokestatic 98, 3) := by decide +kernel
theorem dJxfc994_rint_294c1_15 : decode cJxfc994_rint_294c1 15 = .ok (.dstore_n 0, 1) := by decide +kernel
theorem dJxfc994_rint_294c1_16 : decode cJxfc994_rint_294c1 16 = .ok (.dload_n 0, 1) := by decide +kernel
theorem dJxfc994_rint_294c1_17 : decode cJxfc994_rint_294c1 17 = .ok (.dload_n 2, 1) := by decide +kernel
theorem dJxfc994_rint_294c1_18 : decode cJxfc994_rint_294c1 18 = .ok (.dcmp .g, 1) := by decide +kernel
theorem dJxfc994_rint_294c1_19 : decode cJxfc994_rint_294c1 19 = .ok (.ifCond .ge 9, 3) := by decide +kernel
theorem dJxfc994_rint_294c1_22 : decode cJxfc994_rint_294c1 22 = .ok (.dload_n 2, 1) := by decide +kernel
theorem dJxfc994_rint_294c1_23 : decode cJxfc994_rint_294c1 23 = .ok (.dload_n 0, 1) := by decide +kernel
theorem dJxfc994_rint_294c1_24 : decode cJxfc994_rint_294c1 24 = .ok (.dadd, 1) := by decide +kernel
theorem dJxfc994_rint_294c1_25 : decode cJxfc994_rint_294c1 25 = .ok (.dload_n 2, 1) := by decide +kernel
theorem dJxfc994_rint_294c1_26 : decode cJxfc994_rint_294c1 26 = .ok (.dsub, 1) := by decide +kernel
theorem dJxfc994_rint_294c1_27 : decode cJxfc994_rint_294c1 27 = .ok (.dstore_n 0, 1) := by decide +kernel
theorem dJxfc994_rint_294c1_28 : decode cJxfc994_rint_294c1 28 = .ok (.dload 4, 2) := by decide +kernel
theorem dJxfc994_rint_294c1_30 : decode cJxfc994_rint_294c1 30 = .ok (.dload_n 0, 1) := by decide +kernel
theorem dJxfc994_rint_294c1_31 : decode cJxfc994_rint_294c1 31 = .ok (.dmul, 1) := by decide +kernel
theorem dJxfc994_rint_294c1_32 : decode cJxfc994_rint_294c1 32 = .ok (.dreturn, 1) := by decide +kernel
theorem dJ0_length_8abf5_0 : decode cJ0_length_8abf5 0 = .ok (.aload_n 0, 1) := by decide +kernel
theorem dJ0_length_8abf5_1 : decode cJ0_length_8abf5 1 = .ok (.getfield 9, 3) := by decide +kernel
theorem dJ0_length_8abf5_4 : decode cJ0_length_8abf5 4 = .ok (.arraylength, 1) := by decide +kernel
theorem dJ0_length_8abf5_5 : decode cJ0_length_8abf5 5 = .ok (.aload_n 0, 1) := by decide +kernel
theorem dJ0_length_8abf5_6 : decode cJ0_length_8abf5 6 = .ok (.invokevirtual 335, 3) := by decide +kernel
theorem dJ0_length_8abf5_9 : decode cJ0_length_8abf5 9 = .ok (.ishr, 1) := by decide +kernel
theorem dJ0_length_8abf5_10 : decode cJ0_length_8abf5 10 = .ok (.ireturn, 1) := by decide +kernel
theorem dJ0_indexOf_0f7a4_0 : decode cJ0_indexOf_0f7a4 0 = .ok (.aload_n 0, 1) := by decide +kernel
theorem dJ0_indexOf_0f7a4_1 : decode cJ0_indexOf_0f7a4 1 = .ok (.iload_n 1, 1) := by decide +kernel
theorem dJ0_indexOf_0f7a4_2 : decode cJ0_indexOf_0f7a4 2 = .ok (.iconst 0, 1) := by decide +kernel
theorem dJ0_indexOf_0f7a4_3 : decode cJ0_indexOf_0f7a4 3 = .ok (.invokevirtual 633, 3) := by decide +kernel
theorem dJ0_indexOf_0f7a4_6 : decode cJ0_indexOf_0f7a4 6 = .ok (.ireturn, 1) := by decide +kernel
theorem dJ0_indexOf_7cf53_0 : decode cJ0_indexOf_7cf53 0 = .ok (.aload_n 0, 1) := by decide +kernel
theorem dJ0_indexOf_7cf53_1 : decode cJ0_indexOf_7cf53 1 = .ok (.invokevirtual 492, 3) := by decide +kernel
theorem dJ0_indexOf_7cf53_4 : decode cJ0_indexOf_7cf53 4 = .ok (.ifCond .eq 19, 3) := by decide +kernel
theorem dJ0_indexOf_7cf53_7 : decode cJ0_indexOf_7cf53 7 = .ok (.aload_n 0, 1) := by decide +kernel
theorem dJ0_indexOf_7cf53_8 : decode cJ0_indexOf_7cf53 8 = .ok (.getfield 9, 3) := by decide +kernel
theorem dJ0_indexOf_7cf53_11 : decode cJ0_indexOf_7cf53 11 = .ok (.iload_n 1, 1) := by decide +kernel
theorem dJ0_indexOf_7cf53_12 : decode cJ0_indexOf_7cf53 12 = .ok (.iload_n 2, 1) := by decide +kernel
theorem dJ0_indexOf_7cf53_13 : decode cJ0_indexOf_7cf53 13 = .ok (.aload_n 0, 1) := by decide +kernel
theorem dJ0_indexOf_7cf53_14 : decode cJ0_indexOf_7cf53 14 = .ok (.invokevirtual 505, 3) := by decide +kernel
theorem dJ0_indexOf_7cf53_17 : decode cJ0_indexOf_7cf53 17 = .ok (.invokestatic 637, 3) := by decide +kernel
theorem dJ0_indexOf_7cf53_20 : decode cJ0_indexOf_7cf53 20 = .ok (.goto 16, 3) := by decide +kernel
theorem dJ0_indexOf_7cf53_23 : decode cJ0_indexOf_7cf53 23 = .ok (.aload_n 0, 1) := by decide +kernel
theorem dJ0_indexOf_7cf53_24 : decode cJ0_indexOf_7cf53 24 = .ok (.getfield 9, 3) := by decide +kernel
theorem dJ0_indexOf_7cf53_27 : decode cJ0_indexOf_7cf53 27 = .ok (.iload_n 1, 1) := by decide +kernel
theorem dJ0_indexOf_7cf53_28 : decode cJ0_indexOf_7cf53 28 = .ok (.iload_n 2, 1) := by decide +kernel
theorem dJ0_indexOf_7cf53_29 : decode cJ0_indexOf_7cf53 29 = .ok (.aload_n 0, 1) := by decide +kernel
theorem dJ0_indexOf_7cf53_30 : decode cJ0_indexOf_7cf53 30 = .ok (.invokevirtual 505, 3) := by decide +kernel
theorem dJ0_indexOf_7cf53_33 : decode cJ0_indexOf_7cf53 33 = .ok (.invokestatic 640, 3) := by decide +kernel
theorem dJ0_indexOf_7cf53_36 : decode cJ0_indexOf_7cf53 36 = .ok (.ireturn, 1) := by decide +kernel
theorem dJ0_coder_7d493_0 : decode cJ0_coder_7d493 0 = .ok (.getstatic 38, 3) := by decide +kernel
theorem dJ0_coder_7d493_3 : decode cJ0_coder_7d493 3 = .ok (.ifCond .eq 10, 3) := by decide +kernel
theorem dJ0_coder_7d493_6 : decode cJ0_coder_7d493 6 = .ok (.aload_n 0, 1) := by decide +kernel
theorem dJ0_coder_7d493_7 : decode cJ0_coder_7d493 7 = .ok (.getfield 15, 3) := by decide +kernel
theorem dJ0_coder_7d493_10 : decode cJ0_coder_7d493 10 = .ok (.goto 4, 3) := by decide +kernel
theorem dJ0_coder_7d493_13 : decode cJ0_coder_7d493 13 = .ok (.iconst 1, 1) := by decide +kernel
theorem dJ0_coder_7d493_14 : decode cJ0_coder_7d493 14 = .ok (.ireturn, 1) := by decide +kernel
theorem dJ0_isLatin1_aae02_0 : decode cJ0_isLatin1_aae02 0 = .ok (.getstatic 38, 3) := by decide +kernel
theorem dJ0_isLatin1_aae02_3 : decode cJ0_isLatin1_aae02 3 = .ok (.ifCond .eq 14, 3) := by decide +kernel
theorem dJ0_isLatin1_aae02_6 : decode cJ0_isLatin1_aae02 6 = .ok (.aload_n 0, 1) := by decide +kernel
theorem dJ0_isLatin1_aae02_7 : decode cJ0_isLatin1_aae02 7 = .ok (.getfield 15, 3) := by decide +kernel
theorem dJ0_isLatin1_aae02_10 : decode cJ0_isLatin1_aae02 10 = .ok (.ifCond .ne 7, 3) := by decide +kernel
theorem dJ0_isLatin1_aae02_13 : decode cJ0_isLatin1_aae02 13 = .ok (.iconst 1, 1) := by decide +kernel
theorem dJ0_isLatin1_aae02_14 : decode cJ0_isLatin1_aae02 14 = .ok (.goto 4, 3) := by decide +kernel
theorem dJ0_isLatin1_aae02_17 : decode cJ0_isLatin1_aae02 17 = .ok (.iconst 0, 1) := by decide +kernel
theorem dJ0_isLatin1_aae02_18 : decode cJ0_isLatin1_aae02 18 = .ok (.ireturn, 1) := by decide +kernel
theorem dJ0_checkBoundsBeginEnd_23922_0 : decode cJ0_checkBoundsBeginEnd_23922 0 = .ok (.iload_n 0, 1) := by decide +kernel
theorem dJ0_checkBoundsBeginEnd_23922_1 : decode cJ0_checkBoundsBeginEnd_23922 1 = .ok (.iload_n 1, 1) := by decide +kernel
theorem dJ0_checkBoundsBeginEnd_23922_2 : decode cJ0_checkBoundsBeginEnd_23922 2 = .ok (.iload_n 2, 1) := by decide +kernel
theorem dJ0_checkBoundsBeginEnd_23922_3 : decode cJ0_checkBoundsBeginEnd_23922 3 = .ok (.getstatic 1053, 3) := by decide +kernel
theorem dJ0_checkBoundsBeginEnd_23922_6 : decode cJ0_checkBoundsBeginEnd_23922 6 = .ok (.invokestatic 1062, 3) := by decide +kernel
theorem dJ0_checkBoundsBeginEnd_23922_9 : decode cJ0_checkBoundsBeginEnd_23922 9 = .ok (.pop, 1) := by decide +kernel
theorem dJ0_checkBoundsBeginEnd_23922_10 : decode cJ0_checkBoundsBeginEnd_23922 10 = .ok (.return_, 1) := by decide +kernel
theorem dJ1_canEncode_9a6ad_0 : decode cJ1_canEncode_9a6ad 0 = .ok (.iload_n 0, 1) := by decide +kernel
theorem dJ1_canEncode_9a6ad_1 : decode cJ1_canEncode_9a6ad 1 = .ok (.ifCond .lt 14, 3) := by decide +kernel
theorem dJ1_canEncode_9a6ad_4 : decode cJ1_canEncode_9a6ad 4 = .ok (.iload_n 0, 1) := by decide +kernel
theorem dJ1_canEncode_9a6ad_5 : decode cJ1_canEncode_9a6ad 5 = .ok (.sipush 255, 3) := by decide +kernel
theorem dJ1_canEncode_9a6ad_8 : decode cJ1_canEncode_9a6ad 8 = .ok (.if_icmp .gt 7, 3) := by decide +kernel
theorem dJ1_canEncode_9a6ad_11 : decode cJ1_canEncode_9a6ad 11 = .ok (.iconst 1, 1) := by decide +kernel
theorem dJ1_canEncode_9a6ad_12 : decode cJ1_canEncode_9a6ad 12 = .ok (.goto 4, 3) := by decide +kernel
theorem dJ1_canEncode_9a6ad_15 : decode cJ1_canEncode_9a6ad 15 = .ok (.iconst 0, 1) := by decide +kernel
theorem dJ1_canEncode_9a6ad_16 : decode cJ1_canEncode_9a6ad 16 = .ok (.ireturn, 1) := by decide +kernel
theorem dJ1_indexOf_4cfef_0 : decode cJ1_indexOf_4cfef 0 = .ok (.iload_n 1, 1) := by decide +kernel
theorem dJ1_indexOf_4cfef_1 : decode cJ1_indexOf_4cfef 1 = .ok (.invokestatic 88, 3) := by decide +kernel
theorem dJ1_indexOf_4cfef_4 : decode cJ1_indexOf_4cfef 4 = .ok (.ifCond .ne 5, 3) := by decide +kernel
theorem dJ1_indexOf_4cfef_7 : decode cJ1_indexOf_4cfef 7 = .ok (.iconst (-1), 1) := by decide +kernel
theorem dJ1_indexOf_4cfef_8 : decode cJ1_indexOf_4cfef 8 = .ok (.ireturn, 1) := by decide +kernel
theorem dJ1_indexOf_4cfef_9 : decode cJ1_indexOf_4cfef 9 = .ok (.iload_n 2, 1) := by decide +kernel
theorem dJ1_indexOf_4cfef_10 : decode cJ1_indexOf_4cfef 10 = .ok (.iconst 0, 1) := by decide +kernel
theorem dJ1_indexOf_4cfef_11 : decode cJ1_indexOf_4cfef 11 = .ok (.invokestatic 92, 3) := by decide +kernel
theorem dJ1_indexOf_4cfef_14 : decode cJ1_indexOf_4cfef 14 = .ok (.istore_n 2, 1) := by decide +kernel
theorem dJ1_indexOf_4cfef_15 : decode cJ1_indexOf_4cfef 15 = .ok (.iload_n 3, 1) := by decide +kernel
theorem dJ1_indexOf_4cfef_16 : decode cJ1_indexOf_4cfef 16 = .ok (.aload_n 0, 1) := by decide +kernel
theorem dJ1_indexOf_4cfef_17 : decode cJ1_indexOf_4cfef 17 = .ok (.arraylength, 1) := by decide +kernel
theorem dJ1_indexOf_4cfef_18 : decode cJ1_indexOf_4cfef 18 = .ok (.invokestatic 38, 3) := by decide +kernel
theorem dJ1_indexOf_4cfef_21 : decode cJ1_indexOf_4cfef 21 = .ok (.istore_n 3, 1) := by decide +kernel
theorem dJ1_indexOf_4cfef_22 : decode cJ1_indexOf_4cfef 22 = .ok (.iload_n 2, 1) := by decide +kernel
theorem dJ1_indexOf_4cfef_23 : decode cJ1_indexOf_4cfef 23 = .ok (.iload_n 3, 1) := by decide +kernel
theorem dJ1_indexOf_4cfef_24 : decode cJ1_indexOf_4cfef 24 = .ok (.if_icmp .lt 5, 3) := by decide +kernel
theorem dJ1_indexOf_4cfef_27 : decode cJ1_indexOf_4cfef 27 = .ok (.iconst (-1), 1) := by decide +kernel
theorem dJ1_indexOf_4cfef_28 : decode cJ1_indexOf_4cfef 28 = .ok (.ireturn, 1) := by decide +kernel
theorem dJ1_indexOf_4cfef_29 : decode cJ1_indexOf_4cfef 29 = .ok (.aload_n 0, 1) := by decide +kernel
theorem dJ1_indexOf_4cfef_30 : decode cJ1_indexOf_4cfef 30 = .ok (.iload_n 1, 1) := by decide +kernel
theorem dJ1_indexOf_4cfef_31 : decode cJ1_indexOf_4cfef 31 = .ok (.iload_n 2, 1) := by decide +kernel
theorem dJ1_indexOf_4cfef_32 : decode cJ1_indexOf_4cfef 32 = .ok (.iload_n 3, 1) := by decide +kernel
theorem dJ1_indexOf_4cfef_33 : decode cJ1_indexOf_4cfef 33 = .ok (.invokestatic 95, 3) := by decide +kernel
theorem dJ1_indexOf_4cfef_36 : decode cJ1_indexOf_4cfef 36 = .ok (.ireturn, 1) := by decide +kernel
theorem dJ1_indexOfChar_4cfef_0 : decode cJ1_indexOfChar_4cfef 0 = .ok (.iload_n 1, 1) := by decide +kernel
theorem dJ1_indexOfChar_4cfef_1 : decode cJ1_indexOfChar_4cfef 1 = .ok (.i2b, 1) := by decide +kernel
theorem dJ1_indexOfChar_4cfef_2 : decode cJ1_indexOfChar_4cfef 2 = .ok (.istore 4, 2) := by decide +kernel
theorem dJ1_indexOfChar_4cfef_4 : decode cJ1_indexOfChar_4cfef 4 = .ok (.iload_n 2, 1) := by decide +kernel
theorem dJ1_indexOfChar_4cfef_5 : decode cJ1_indexOfChar_4cfef 5 = .ok (.istore 5, 2) := by decide +kernel
theorem dJ1_indexOfChar_4cfef_7 : decode cJ1_indexOfChar_4cfef 7 = .ok (.iload 5, 2) := by decide +kernel
theorem dJ1_indexOfChar_4cfef_9 : decode cJ1_indexOfChar_4cfef 9 = .ok (.iload_n 3, 1) := by decide +kernel
theorem dJ1_indexOfChar_4cfef_10 : decode cJ1_indexOfChar_4cfef 10 = .ok (.if_icmp .ge 21, 3) := by decide +kernel
theorem dJ1_indexOfChar_4cfef_13 : decode cJ1_indexOfChar_4cfef 13 = .ok (.aload_n 0, 1) := by decide +kernel
theorem dJ1_indexOfChar_4cfef_14 : decode cJ1_indexOfChar_4cfef 14 = .ok (.iload 5, 2) := by decide +kernel
theorem dJ1_indexOfChar_4cfef_16 : decode cJ1_indexOfChar_4cfef 16 = .ok (.baload, 1) := by decide +kernel
theorem dJ1_indexOfChar_4cfef_17 : decode cJ1_indexOfChar_4cfef 17 = .ok (.iload 4, 2) := by decide +kernel
theorem dJ1_indexOfChar_4cfef_19 : decode cJ1_indexOfChar_4cfef 19 = .ok (.if_icmp .ne 6, 3) := by decide +kernel
theorem dJ1_indexOfChar_4cfef_22 : decode cJ1_indexOfChar_4cfef 22 = .ok (.iload 5, 2) := by decide +kernel
theorem dJ1_indexOfChar_4cfef_24 : decode cJ1_indexOfChar_4cfef 24 = .ok (.ireturn, 1) := by decide +kernel
theorem dJ1_indexOfChar_4cfef_25 : decode cJ1_indexOfChar_4cfef 25 = .ok (.iinc 5 1, 3) := by decide +kernel
theorem dJ1_indexOfChar_4cfef_28 : decode cJ1_indexOfChar_4cfef 28 = .ok (.goto (-21), 3) := by decide +kernel
theorem dJ1_indexOfChar_4cfef_31 : decode cJ1_indexOfChar_4cfef 31 = .ok (.iconst (-1), 1) := by decide +kernel
theorem dJ1_indexOfChar_4cfef_32 : decode cJ1_indexOfChar_4cfef 32 = .ok (.ireturn, 1) := by decide +kernel
theorem dJ2_getChar_3b067_0 : decode cJ2_getChar_3b067 0 = .ok (.getstatic 44, 3) := by decide +kernel
theorem dJ2_getChar_3b067_3 : decode cJ2_getChar_3b067 3 = .ok (.ifCond .ne 25, 3) := by decide +kernel
theorem dJ2_getChar_3b067_6 : decode cJ2_getChar_3b067 6 = .ok (.iload_n 1, 1) := by decide +kernel
theorem dJ2_getChar_3b067_7 : decode cJ2_getChar_3b067 7 = .ok (.ifCond .lt 11, 3) := by decide +kernel
theorem dJ2_getChar_3b067_10 : decode cJ2_getChar_3b067 10 = .ok (.iload_n 1, 1) := by decide +kernel
theorem dJ2_getChar_3b067_11 : decode cJ2_getChar_3b067 11 = .ok (.aload_n 0, 1) := by decide +kernel
theorem dJ2_getChar_3b067_12 : decode cJ2_getChar_3b067 12 = .ok (.invokestatic 48, 3) := by decide +kernel
theorem dJ2_getChar_3b067_15 : decode cJ2_getChar_3b067 15 = .ok (.if_icmp .lt 13, 3) := by decide +kernel
theorem dJ2_getChar_3b067_18 : decode cJ2_getChar_3b067 18 = .ok (.new 52, 3) := by decide +kernel
theorem dJ2_getChar_3b067_21 : decode cJ2_getChar_3b067 21 = .ok (.dup, 1) := by decide +kernel
theorem dJ2_getChar_3b067_22 : decode cJ2_getChar_3b067 22 = .ok (.ldc 54, 2) := by decide +kernel
theorem dJ2_getChar_3b067_24 : decode cJ2_getChar_3b067 24 = .ok (.invokespecial 56, 3) := by decide +kernel
theorem dJ2_getChar_3b067_27 : decode cJ2_getChar_3b067 27 = .ok (.athrow, 1) := by decide +kernel
theorem dJ2_getChar_3b067_28 : decode cJ2_getChar_3b067 28 = .ok (.iload_n 1, 1) := by decide +kernel
theorem dJ2_getChar_3b067_29 : decode cJ2_getChar_3b067 29 = .ok (.iconst 1, 1) := by decide +kernel
theorem dJ2_getChar_3b067_30 : decode cJ2_getChar_3b067 30 = .ok (.ishl, 1) := by decide +kernel
theorem dJ2_getChar_3b067_31 : decode cJ2_getChar_3b067 31 = .ok (.istore_n 1, 1) := by decide +kernel
theorem dJ2_getChar_3b067_32 : decode cJ2_getChar_3b067 32 = .ok (.aload_n 0, 1) := by decide +kernel
theorem dJ2_getChar_3b067_33 : decode cJ2_getChar_3b067 33 = .ok (.iload_n 1, 1) := by decide +kernel
theorem dJ2_getChar_3b067_34 : decode cJ2_getChar_3b067 34 = .ok (.iinc 1 1, 3) := by decide +kernel
theorem dJ2_getChar_3b067_37 : decode cJ2_getChar_3b067 37 = .ok (.baload, 1) := by decide +kernel
theorem dJ2_getChar_3b067_38 : decode cJ2_getChar_3b067 38 = .ok (.sipush 255, 3) := by decide +kernel
theorem dJ2_getChar_3b067_41 : decode cJ2_getChar_3b067 41 = .ok (.iand, 1) := by decide +kernel
theorem dJ2_getChar_3b067_42 : decode cJ2_getChar_3b067 42 = .ok (.getstatic 59, 3) := by decide +kernel
theorem dJ2_getChar_3b067_45 : decode cJ2_getChar_3b067 45 = .ok (.ishl, 1) := by decide +kernel
theorem dJ2_getChar_3b067_46 : decode cJ2_getChar_3b067 46 = .ok (.aload_n 0, 1) := by decide +kernel
theorem dJ2_getChar_3b067_47 : decode cJ2_getChar_3b067 47 = .ok (.iload_n 1, 1) := by decide +kernel
theorem dJ2_getChar_3b067_48 : decode cJ2_getChar_3b067 48 = .ok (.baload, 1) := by decide +kernel
theorem dJ2_getChar_3b067_49 : decode cJ2_getChar_3b067 49 = .ok (.sipush 255, 3) := by decide +kernel
theorem dJ2_getChar_3b067_52 : decode cJ2_getChar_3b067 52 = .ok (.iand, 1) := by decide +kernel
theorem dJ2_getChar_3b067_53 : decode cJ2_getChar_3b067 53 = .ok (.getstatic 63, 3) := by decide +kernel
theorem dJ2_getChar_3b067_56 : decode cJ2_getChar_3b067 56 = .ok (.ishl, 1) := by decide +kernel
theorem dJ2_getChar_3b067_57 : decode cJ2_getChar_3b067 57 = .ok (.ior, 1) := by decide +kernel
theorem dJ2_getChar_3b067_58 : decode cJ2_getChar_3b067 58 = .ok (.i2c, 1) := by decide +kernel
theorem dJ2_getChar_3b067_59 : decode cJ2_getChar_3b067 59 = .ok (.ireturn, 1) := by decide +kernel
theorem dJ2_length_9d52b_0 : decode cJ2_length_9d52b 0 = .ok (.aload_n 0, 1) := by decide +kernel
theorem dJ2_length_9d52b_1 : decode cJ2_length_9d52b 1 = .ok (.arraylength, 1) := by decide +kernel
theorem dJ2_length_9d52b_2 : decode cJ2_length_9d52b 2 = .ok (.iconst 1, 1) := by decide +kernel
theorem dJ2_length_9d52b_3 : decode cJ2_length_9d52b 3 = .ok (.ishr, 1) := by decide +kernel
theorem dJ2_length_9d52b_4 : decode cJ2_length_9d52b 4 = .ok (.ireturn, 1) := by decide +kernel
theorem dJ2_indexOf_4cfef_0 : decode cJ2_indexOf_4cfef 0 = .ok (.iload_n 2, 1) := by decide +kernel
theorem dJ2_indexOf_4cfef_1 : decode cJ2_indexOf_4cfef 1 = .ok (.iconst 0, 1) := by decide +kernel
theorem dJ2_indexOf_4cfef_2 : decode cJ2_indexOf_4cfef 2 = .ok (.invokestatic 224, 3) := by decide +kernel
theorem dJ2_indexOf_4cfef_5 : decode cJ2_indexOf_4cfef 5 = .ok (.istore_n 2, 1) := by decide +kernel
theorem dJ2_indexOf_4cfef_6 : decode cJ2_indexOf_4cfef 6 = .ok (.iload_n 3, 1) := by decide +kernel
theorem dJ2_indexOf_4cfef_7 : decode cJ2_indexOf_4cfef 7 = .ok (.aload_n 0, 1) := by decide +kernel
theorem dJ2_indexOf_4cfef_8 : decode cJ2_indexOf_4cfef 8 = .ok (.arraylength, 1) := by decide +kernel
theorem dJ2_indexOf_4cfef_9 : decode cJ2_indexOf_4cfef 9 = .ok (.iconst 1, 1) := by decide +kernel
theorem dJ2_indexOf_4cfef_10 : decode cJ2_indexOf_4cfef 10 = .ok (.ishr, 1) := by decide +kernel
theorem dJ2_indexOf_4cfef_11 : decode cJ2_indexOf_4cfef 11 = .ok (.invokestatic 183, 3) := by decide +kernel
theorem dJ2_indexOf_4cfef_14 : decode cJ2_indexOf_4cfef 14 = .ok (.istore_n 3, 1) := by decide +kernel
theorem dJ2_indexOf_4cfef_15 : decode cJ2_indexOf_4cfef 15 = .ok (.iload_n 2, 1) := by decide +kernel
theorem dJ2_indexOf_4cfef_16 : decode cJ2_indexOf_4cfef 16 = .ok (.iload_n 3, 1) := by decide +kernel
theorem dJ2_indexOf_4cfef_17 : decode cJ2_indexOf_4cfef 17 = .ok (.if_icmp .lt 5, 3) := by decide +kernel
theorem dJ2_indexOf_4cfef_20 : decode cJ2_indexOf_4cfef 20 = .ok (.iconst (-1), 1) := by decide +kernel
theorem dJ2_indexOf_4cfef_21 : decode cJ2_indexOf_4cfef 21 = .ok (.ireturn, 1) := by decide +kernel
theorem dJ2_indexOf_4cfef_22 : decode cJ2_indexOf_4cfef 22 = .ok (.iload_n 1, 1) := by decide +kernel
theorem dJ2_indexOf_4cfef_23 : decode cJ2_indexOf_4cfef 23 = .ok (.ldc 227, 2) := by decide +kernel
theorem dJ2_indexOf_4cfef_25 : decode cJ2_indexOf_4cfef 25 = .ok (.if_icmp .ge 11, 3) := by decide +kernel
theorem dJ2_indexOf_4cfef_28 : decode cJ2_indexOf_4cfef 28 = .ok (.aload_n 0, 1) := by decide +kernel
theorem dJ2_indexOf_4cfef_29 : decode cJ2_indexOf_4cfef 29 = .ok (.iload_n 1, 1) := by decide +kernel
theorem dJ2_indexOf_4cfef_30 : decode cJ2_indexOf_4cfef 30 = .ok (.iload_n 2, 1) := by decide +kernel
theorem dJ2_indexOf_4cfef_31 : decode cJ2_indexOf_4cfef 31 = .ok (.iload_n 3, 1) := by decide +kernel
theorem dJ2_indexOf_4cfef_32 : decode cJ2_indexOf_4cfef 32 = .ok (.invokestatic 228, 3) := by decide +kernel
theorem dJ2_indexOf_4cfef_35 : decode cJ2_indexOf_4cfef 35 = .ok (.ireturn, 1) := by decide +kernel
theorem dJ2_indexOf_4cfef_36 : decode cJ2_indexOf_4cfef 36 = .ok (.aload_n 0, 1) := by decide +kernel
theorem dJ2_indexOf_4cfef_37 : decode cJ2_indexOf_4cfef 37 = .ok (.iload_n 1, 1) := by decide +kernel
theorem dJ2_indexOf_4cfef_38 : decode cJ2_indexOf_4cfef 38 = .ok (.iload_n 2, 1) := by decide +kernel
theorem dJ2_indexOf_4cfef_39 : decode cJ2_indexOf_4cfef 39 = .ok (.iload_n 3, 1) := by decide +kernel
theorem dJ2_indexOf_4cfef_40 : decode cJ2_indexOf_4cfef 40 = .ok (.invokestatic 232, 3) := by decide +kernel
theorem dJ2_indexOf_4cfef_43 : decode cJ2_indexOf_4cfef 43 = .ok (.ireturn, 1) := by decide +kernel
theorem dJ2_indexOfChar_4cfef_0 : decode cJ2_indexOfChar_4cfef 0 = .ok (.iload_n 2, 1) := by decide +kernel
theorem dJ2_indexOfChar_4cfef_1 : decode cJ2_indexOfChar_4cfef 1 = .ok (.iload_n 3, 1) := by decide +kernel
theorem dJ2_indexOfChar_4cfef_2 : decode cJ2_indexOfChar_4cfef 2 = .ok (.aload_n 0, 1) := by decide +kernel
theorem dJ2_indexOfChar_4cfef_3 : decode cJ2_indexOfChar_4cfef 3 = .ok (.invokestatic 96, 3) := by decide +kernel
theorem dJ2_indexOfChar_4cfef_6 : decode cJ2_indexOfChar_4cfef 6 = .ok (.aload_n 0, 1) := by decide +kernel
theorem dJ2_indexOfChar_4cfef_7 : decode cJ2_indexOfChar_4cfef 7 = .ok (.iload_n 1, 1) := by decide +kernel
theorem dJ2_indexOfChar_4cfef_8 : decode cJ2_indexOfChar_4cfef 8 = .ok (.iload_n 2, 1) := by decide +kernel
theorem dJ2_indexOfChar_4cfef_9 : decode cJ2_indexOfChar_4cfef 9 = .ok (.iload_n 3, 1) := by decide +kernel
theorem dJ2_indexOfChar_4cfef_10 : decode cJ2_indexOfChar_4cfef 10 = .ok (.invokestatic 244, 3) := by decide +kernel
theorem dJ2_indexOfChar_4cfef_13 : decode cJ2_indexOfChar_4cfef 13 = .ok (.ireturn, 1) := by decide +kernel
theorem dJ2_indexOfCharUnsafe_4cfef_0 : decode cJ2_indexOfCharUnsafe_4cfef 0 = .ok (.iload_n 2, 1) := by decide +kernel
theorem dJ2_indexOfCharUnsafe_4cfef_1 : decode cJ2_indexOfCharUnsafe_4cfef 1 = .ok (.istore 4, 2) := by decide +kernel
theorem dJ2_indexOfCharUnsafe_4cfef_3 : decode cJ2_indexOfCharUnsafe_4cfef 3 = .ok (.iload 4, 2) := by decide +kernel
theorem dJ2_indexOfCharUnsafe_4cfef_5 : decode cJ2_indexOfCharUnsafe_4cfef 5 = .ok (.iload_n 3, 1) := by decide +kernel
theorem dJ2_indexOfCharUnsafe_4cfef_6 : decode cJ2_indexOfCharUnsafe_4cfef 6 = .ok (.if_icmp .ge 22, 3) := by decide +kernel
theorem dJ2_indexOfCharUnsafe_4cfef_9 : decode cJ2_indexOfCharUnsafe_4cfef 9 = .ok (.aload_n 0, 1) := by decide +kernel
theorem dJ2_indexOfCharUnsafe_4cfef_10 : decode cJ2_indexOfCharUnsafe_4cfef 10 = .ok (.iload 4, 2) := by decide +kernel
theorem dJ2_indexOfCharUnsafe_4cfef_12 : decode cJ2_indexOfCharUnsafe_4cfef 12 = .ok (.invokestatic 71, 3) := by decide +kernel
theorem dJ2_indexOfCharUnsafe_4cfef_15 : decode cJ2_indexOfCharUnsafe_4cfef 15 = .ok (.iload_n 1, 1) := by decide +kernel
theorem dJ2_indexOfCharUnsafe_4cfef_16 : decode cJ2_indexOfCharUnsafe_4cfef 16 = .ok (.if_icmp .ne 6, 3) := by decide +kernel
theorem dJ2_indexOfCharUnsafe_4cfef_19 : decode cJ2_indexOfCharUnsafe_4cfef 19 = .ok (.iload 4, 2) := by decide +kernel
theorem dJ2_indexOfCharUnsafe_4cfef_21 : decode cJ2_indexOfCharUnsafe_4cfef 21 = .ok (.ireturn, 1) := by decide +kernel
theorem dJ2_indexOfCharUnsafe_4cfef_22 : decode cJ2_indexOfCharUnsafe_4cfef 22 = .ok (.iinc 4 1, 3) := by decide +kernel
theorem dJ2_indexOfCharUnsafe_4cfef_25 : decode cJ2_indexOfCharUnsafe_4cfef 25 = .ok (.goto (-22), 3) := by decide +kernel
theorem dJ2_indexOfCharUnsafe_4cfef_28 : decode cJ2_indexOfCharUnsafe_4cfef 28 = .ok (.iconst (-1), 1) := by decide +kernel
theorem dJ2_indexOfCharUnsafe_4cfef_29 : decode cJ2_indexOfCharUnsafe_4cfef 29 = .ok (.ireturn, 1) := by decide +kernel
theorem dJ2_indexOfSupplementary_4cfef_0 : decode cJ2_indexOfSupplementary_4cfef 0 = .ok (.iload_n 1, 1) := by decide +kernel
theorem dJ2_indexOfSupplementary_4cfef_1 : decode cJ2_indexOfSupplementary_4cfef 1 = .ok (.invokestatic 164, 3) := by decide +kernel
theorem dJ2_indexOfSupplementary_4cfef_4 : decode cJ2_indexOfSupplementary_4cfef 4 = .ok (.ifCond .eq 65, 3) := by decide +kernel
theorem dJ2_indexOfSupplementary_4cfef_7 : decode cJ2_indexOfSupplementary_4cfef 7 = .ok (.iload_n 1, 1) := by decide +kernel
theorem dJ2_indexOfSupplementary_4cfef_8 : decode cJ2_indexOfSupplementary_4cfef 8 = .ok (.invokestatic 157, 3) := by decide +kernel
theorem dJ2_indexOfSupplementary_4cfef_11 : decode cJ2_indexOfSupplementary_4cfef 11 = .ok (.istore 4, 2) := by decide +kernel
theorem dJ2_indexOfSupplementary_4cfef_13 : decode cJ2_indexOfSupplementary_4cfef 13 = .ok (.iload_n 1, 1) := by decide +kernel
theorem dJ2_indexOfSupplementary_4cfef_14 : decode cJ2_indexOfSupplementary_4cfef 14 = .ok (.invokestatic 161, 3) := by decide +kernel
theorem dJ2_indexOfSupplementary_4cfef_17 : decode cJ2_indexOfSupplementary_4cfef 17 = .ok (.istore 5, 2) := by decide +kernel
theorem dJ2_indexOfSupplementary_4cfef_19 : decode cJ2_indexOfSupplementary_4cfef 19 = .ok (.iload_n 2, 1) := by decide +kernel
theorem dJ2_indexOfSupplementary_4cfef_20 : decode cJ2_indexOfSupplementary_4cfef 20 = .ok (.iload_n 3, 1) := by decide +kernel
theorem dJ2_indexOfSupplementary_4cfef_21 : decode cJ2_indexOfSupplementary_4cfef 21 = .ok (.aload_n 0, 1) := by decide +kernel
theorem dJ2_indexOfSupplementary_4cfef_22 : decode cJ2_indexOfSupplementary_4cfef 22 = .ok (.invokestatic 96, 3) := by decide +kernel
theorem dJ2_indexOfSupplementary_4cfef_25 : decode cJ2_indexOfSupplementary_4cfef 25 = .ok (.iload_n 2, 1) := by decide +kernel
theorem dJ2_indexOfSupplementary_4cfef_26 : decode cJ2_indexOfSupplementary_4cfef 26 = .ok (.istore 6, 2) := by decide +kernel
theorem dJ2_indexOfSupplementary_4cfef_28 : decode cJ2_indexOfSupplementary_4cfef 28 = .ok (.iload 6, 2) := by decide +kernel
theorem dJ2_indexOfSupplementary_4cfef_30 : decode cJ2_indexOfSupplementary_4cfef 30 = .ok (.iload_n 3, 1) := by decide +kernel
theorem dJ2_indexOfSupplementary_4cfef_31 : decode cJ2_indexOfSupplementary_4cfef 31 = .ok (.iconst 1, 1) := by decide +kernel
theorem dJ2_indexOfSupplementary_4cfef_32 : decode cJ2_indexOfSupplementary_4cfef 32 = .ok (.isub, 1) := by decide +kernel
theorem dJ2_indexOfSupplementary_4cfef_33 : decode cJ2_indexOfSupplementary_4cfef 33 = .ok (.if_icmp .ge 36, 3) := by decide +kernel
theorem dJ2_indexOfSupplementary_4cfef_36 : decode cJ2_indexOfSupplementary_4cfef 36 = .ok (.aload_n 0, 1) := by decide +kernel
theorem dJ2_indexOfSupplementary_4cfef_37 : decode cJ2_indexOfSupplementary_4cfef 37 = .ok (.iload 6, 2) := by decide +kernel
theorem dJ2_indexOfSupplementary_4cfef_39 : decode cJ2_indexOfSupplementary_4cfef 39 = .ok (.invokestatic 71, 3) := by decide +kernel
theorem dJ2_indexOfSupplementary_4cfef_42 : decode cJ2_indexOfSupplementary_4cfef 42 = .ok (.iload 4, 2) := by decide +kernel
theorem dJ2_indexOfSupplementary_4cfef_44 : decode cJ2_indexOfSupplementary_4cfef 44 = .ok (.if_icmp .ne 19, 3) := by decide +kernel
theorem dJ2_indexOfSupplementary_4cfef_47 : decode cJ2_indexOfSupplementary_4cfef 47 = .ok (.aload_n 0, 1) := by decide +kernel
theorem dJ2_indexOfSupplementary_4cfef_48 : decode cJ2_indexOfSupplementary_4cfef 48 = .ok (.iload 6, 2) := by decide +kernel
theorem dJ2_indexOfSupplementary_4cfef_50 : decode cJ2_indexOfSupplementary_4cfef 50 = .ok (.iconst 1, 1) := by decide +kernel
theorem dJ2_indexOfSupplementary_4cfef_51 : decode cJ2_indexOfSupplementary_4cfef 51 = .ok (.iadd, 1) := by decide +kernel
theorem dJ2_indexOfSupplementary_4cfef_52 : decode cJ2_indexOfSupplementary_4cfef 52 = .ok (.invokestatic 71, 3) := by decide +kernel
theorem dJ2_indexOfSupplementary_4cfef_55 : decode cJ2_indexOfSupplementary_4cfef 55 = .ok (.iload 5, 2) := by decide +kernel
theorem dJ2_indexOfSupplementary_4cfef_57 : decode cJ2_indexOfSupplementary_4cfef 57 = .ok (.if_icmp .ne 6, 3) := by decide +kernel
theorem dJ2_indexOfSupplementary_4cfef_60 : decode cJ2_indexOfSupplementary_4cfef 60 = .ok (.iload 6, 2) := by decide +kernel
theorem dJ2_indexOfSupplementary_4cfef_62 : decode cJ2_indexOfSupplementary_4cfef 62 = .ok (.ireturn, 1) := by decide +kernel
theorem dJ2_indexOfSupplementary_4cfef_63 : decode cJ2_indexOfSupplementary_4cfef 63 = .ok (.iinc 6 1, 3) := by decide +kernel
theorem dJ2_indexOfSupplementary_4cfef_66 : decode cJ2_indexOfSupplementary_4cfef 66 = .ok (.goto (-38), 3) := by decide +kernel
theorem dJ2_indexOfSupplementary_4cfef_69 : decode cJ2_indexOfSupplementary_4cfef 69 = .ok (.iconst (-1), 1) := by decide +kernel
theorem dJ2_indexOfSupplementary_4cfef_70 : decode cJ2_indexOfSupplementary_4cfef 70 = .ok (.ireturn, 1) := by decide +kernel
theorem dJ2_checkBoundsBeginEnd_d044e_0 : decode cJ2_checkBoundsBeginEnd_d044e 0 = .ok (.iload_n 0, 1) := by decide +kernel
theorem dJ2_checkBoundsBeginEnd_d044e_1 : decode cJ2_checkBoundsBeginEnd_d044e 1 = .ok (.iload_n 1, 1) := by decide +kernel
theorem dJ2_checkBoundsBeginEnd_d044e_2 : decode cJ2_checkBoundsBeginEnd_d044e 2 = .ok (.aload_n 2, 1) := by decide +kernel
theorem dJ2_checkBoundsBeginEnd_d044e_3 : decode cJ2_checkBoundsBeginEnd_d044e 3 = .ok (.invokestatic 48, 3) := by decide +kernel
theorem dJ2_checkBoundsBeginEnd_d044e_6 : decode cJ2_checkBoundsBeginEnd_d044e 6 = .ok (.invokestatic 241, 3) := by decide +kernel
theorem dJ2_checkBoundsBeginEnd_d044e_9 : decode cJ2_checkBoundsBeginEnd_d044e 9 = .ok (.return_, 1) := by decide +kernel
theorem dJxa1e45_init_da8c8_0 : decode cJxa1e45_init_da8c8 0 = .ok (.aload_n 0, 1) := by decide +kernel
theorem dJxa1e45_init_da8c8_1 : decode cJxa1e45_init_da8c8 1 = .ok (.invokespecial 1, 3) := by decide +kernel
theorem dJxa1e45_init_da8c8_4 : decode cJxa1e45_init_da8c8 4 = .ok (.return_, 1) := by decide +kernel
theorem dJxc12de_init_da8c8_0 : decode cJxc12de_init_da8c8 0 = .ok (.aload_n 0, 1) := by decide +kernel
theorem dJxc12de_init_da8c8_1 : decode cJxc12de_init_da8c8 1 = .ok (.invokespecial 1, 3) := by decide +kernel
theorem dJxc12de_init_da8c8_4 : decode cJxc12de_init_da8c8 4 = .ok (.aload_n 0, 1) := by decide +kernel
theorem dJxc12de_init_da8c8_5 : decode cJxc12de_init_da8c8 5 = .ok (.iconst 0, 1) := by decide +kernel
theorem dJxc12de_init_da8c8_6 : decode cJxc12de_init_da8c8 6 = .ok (.putfield 7, 3) := by decide +kernel
theorem dJxc12de_init_da8c8_9 : decode cJxc12de_init_da8c8 9 = .ok (.return_, 1) := by decide +kernel
theorem dJx35411_init_45d68_0 : decode cJx35411_init_45d68 0 = .ok (.aload_n 0, 1) := by decide +kernel
theorem dJx35411_init_45d68_1 : decode cJx35411_init_45d68 1 = .ok (.aload_n 1, 1) := by decide +kernel
theorem dJx35411_init_45d68_2 : decode cJx35411_init_45d68 2 = .ok (.putfield 1, 3) := by decide +kernel
theorem dJx35411_init_45d68_5 : decode cJx35411_init_45d68 5 = .ok (.aload_n 0, 1) := by decide +kernel
theorem dJx35411_init_45d68_6 : decode cJx35411_init_45d68 6 = .ok (.invokespecial 7, 3) := by decide +kernel
theorem dJx35411_init_45d68_9 : decode cJx35411_init_45d68 9 = .ok (.aload_n 0, 1) := by decide +kernel
theorem dJx35411_init_45d68_10 : decode cJx35411_init_45d68 10 = .ok (.iconst (-1), 1) := by decide +kernel
theorem dJx35411_init_45d68_11 : decode cJx35411_init_45d68 11 = .ok (.putfield 13, 3) := by decide +kernel
theorem dJx35411_init_45d68_14 : decode cJx35411_init_45d68 14 = .ok (.aload_n 0, 1) := by decide +kernel
theorem dJx35411_init_45d68_15 : decode cJx35411_init_45d68 15 = .ok (.aload_n 0, 1) := by decide +kernel
theorem dJx35411_init_45d68_16 : decode cJx35411_init_45d68 16 = .ok (.getfield 1, 3) := by decide +kernel
theorem dJx35411_init_45d68_19 : decode cJx35411_init_45d68 19 = .ok (.getfield 17, 3) := by decide +kernel
theorem dJx35411_init_45d68_22 : decode cJx35411_init_45d68 22 = .ok (.putfield 22, 3) := by decide +kernel
theorem dJx35411_init_45d68_25 : decode cJx35411_init_45d68 25 = .ok (.return_, 1) := by decide +kernel
theorem dJx35411_hasNext_aae02_0 : decode cJx35411_hasNext_aae02 0 = .ok (.aload_n 0, 1) := by decide +kernel
theorem dJx35411_hasNext_aae02_1 : decode cJx35411_hasNext_aae02 1 = .ok (.getfield 25, 3) := by decide +kernel
theorem dJx35411_hasNext_aae02_4 : decode cJx35411_hasNext_aae02 4 = .ok (.aload_n 0, 1) := by decide +kernel
theorem dJx35411_hasNext_aae02_5 : decode cJx35411_hasNext_aae02 5 = .ok (.getfield 1, 3) := by decide +kernel
theorem dJx35411_hasNext_aae02_8 : decode cJx35411_hasNext_aae02 8 = .ok (.getfield 28, 3) := by decide +kernel
theorem dJx35411_hasNext_aae02_11 : decode cJx35411_hasNext_aae02 11 = .ok (.if_icmp .eq 7, 3) := by decide +kernel
theorem dJx35411_hasNext_aae02_14 : decode cJx35411_hasNext_aae02 14 = .ok (.iconst 1, 1) := by decide +kernel
theorem dJx35411_hasNext_aae02_15 : decode cJx35411_hasNext_aae02 15 = .ok (.goto 4, 3) := by decide +kernel
theorem dJx35411_hasNext_aae02_18 : decode cJx35411_hasNext_aae02 18 = .ok (.iconst 0, 1) := by decide +kernel
theorem dJx35411_hasNext_aae02_19 : decode cJx35411_hasNext_aae02 19 = .ok (.ireturn, 1) := by decide +kernel
theorem dJx35411_next_0502b_0 : decode cJx35411_next_0502b 0 = .ok (.aload_n 0, 1) := by decide +kernel
theorem dJx35411_next_0502b_1 : decode cJx35411_next_0502b 1 = .ok (.invokevirtual 31, 3) := by decide +kernel
theorem dJx35411_next_0502b_4 : decode cJx35411_next_0502b 4 = .ok (.aload_n 0, 1) := by decide +kernel
theorem dJx35411_next_0502b_5 : decode cJx35411_next_0502b 5 = .ok (.getfield 25, 3) := by decide +kernel
theorem dJx35411_next_0502b_8 : decode cJx35411_next_0502b 8 = .ok (.istore_n 1, 1) := by decide +kernel
theorem dJx35411_next_0502b_9 : decode cJx35411_next_0502b 9 = .ok (.iload_n 1, 1) := by decide +kernel
theorem dJx35411_next_0502b_10 : decode cJx35411_next_0502b 10 = .ok (.aload_n 0, 1) := by decide +kernel
theorem dJx35411_next_0502b_11 : decode cJx35411_next_0502b 11 = .ok (.getfield 1, 3) := by decide +kernel
theorem dJx35411_next_0502b_14 : decode cJx35411_next_0502b 14 = .ok (.getfield 28, 3) := by decide +kernel
theorem dJx35411_next_0502b_17 : decode cJx35411_next_0502b 17 = .ok (.if_icmp .lt 11, 3) := by decide +kernel
theorem dJx35411_next_0502b_20 : decode cJx35411_next_0502b 20 = .ok (.new 34, 3) := by decide +kernel
theorem dJx35411_next_0502b_23 : decode cJx35411_next_0502b 23 = .ok (.dup, 1) := by decide +kernel
theorem dJx35411_next_0502b_24 : decode cJx35411_next_0502b 24 = .ok (.invokespecial 36, 3) := by decide +kernel
theorem dJx35411_next_0502b_27 : decode cJx35411_next_0502b 27 = .ok (.athrow, 1) := by decide +kernel
theorem dJx35411_next_0502b_28 : decode cJx35411_next_0502b 28 = .ok (.aload_n 0, 1) := by decide +kernel
theorem dJx35411_next_0502b_29 : decode cJx35411_next_0502b 29 = .ok (.getfield 1, 3) := by decide +kernel
theorem dJx35411_next_0502b_32 : decode cJx35411_next_0502b 32 = .ok (.getfield 37, 3) := by decide +kernel
theorem dJx35411_next_0502b_35 : decode cJx35411_next_0502b 35 = .ok (.astore_n 2, 1) := by decide +kernel
theorem dJx35411_next_0502b_36 : decode cJx35411_next_0502b 36 = .ok (.iload_n 1, 1) := by decide +kernel
theorem dJx35411_next_0502b_37 : decode cJx35411_next_0502b 37 = .ok (.aload_n 2, 1) := by decide +kernel
theorem dJx35411_next_0502b_38 : decode cJx35411_next_0502b 38 = .ok (.arraylength, 1) := by decide +kernel
theorem dJx35411_next_0502b_39 : decode cJx35411_next_0502b 39 = .ok (.if_icmp .lt 11, 3) := by decide +kernel
theorem dJx35411_next_0502b_42 : decode cJx35411_next_0502b 42 = .ok (.new 41, 3) := by decide +kernel
theorem dJx35411_next_0502b_45 : decode cJx35411_next_0502b 45 = .ok (.dup, 1) := by decide +kernel
theorem dJx35411_next_0502b_46 : decode cJx35411_next_0502b 46 = .ok (.invokespecial 43, 3) := by decide +kernel
theorem dJx35411_next_0502b_49 : decode cJx35411_next_0502b 49 = .ok (.athrow, 1) := by decide +kernel
theorem dJx35411_next_0502b_50 : decode cJx35411_next_0502b 50 = .ok (.aload_n 0, 1) := by decide +kernel
theorem dJx35411_next_0502b_51 : decode cJx35411_next_0502b 51 = .ok (.iload_n 1, 1) := by decide +kernel
theorem dJx35411_next_0502b_52 : decode cJx35411_next_0502b 52 = .ok (.iconst 1, 1) := by decide +kernel
theorem dJx35411_next_0502b_53 : decode cJx35411_next_0502b 53 = .ok (.iadd, 1) := by decide +kernel
theorem dJx35411_next_0502b_54 : decode cJx35411_next_0502b 54 = .ok (.putfield 25, 3) := by decide +kernel
theorem dJx35411_next_0502b_57 : decode cJx35411_next_0502b 57 = .ok (.aload_n 2, 1) := by decide +kernel
theorem dJx35411_next_0502b_58 : decode cJx35411_next_0502b 58 = .ok (.aload_n 0, 1) := by decide +kernel
theorem dJx35411_next_0502b_59 : decode cJx35411_next_0502b 59 = .ok (.iload_n 1, 1) := by decide +kernel
theorem dJx35411_next_0502b_60 : decode cJx35411_next_0502b 60 = .ok (.dup_x1, 1) := by decide +kernel
theorem dJx35411_next_0502b_61 : decode cJx35411_next_0502b 61 = .ok (.putfield 13, 3) := by decide +kernel
theorem dJx35411_next_0502b_64 : decode cJx35411_next_0502b 64 = .ok (.aaload, 1) := by decide +kernel
theorem dJx35411_next_0502b_65 : decode cJx35411_next_0502b 65 = .ok (.areturn, 1) := by decide +kernel
theorem dJx35411_checkForComodification_da8c8_0 : decode cJx35411_checkForComodification_da8c8 0 = .ok (.aload_n 0, 1) := by decide +kernel
theorem dJx35411_checkForComodification_da8c8_1 : decode cJx35411_checkForComodification_da8c8 1 = .ok (.getfield 1, 3) := by decide +kernel
theorem dJx35411_checkForComodification_da8c8_4 : decode cJx35411_checkForComodification_da8c8 4 = .ok (.getfield 17, 3) := by decide +kernel
theorem dJx35411_checkForComodification_da8c8_7 : decode cJx35411_checkForComodification_da8c8 7 = .ok (.aload_n 0, 1) := by decide +kernel
theorem dJx35411_checkForComodification_da8c8_8 : decode cJx35411_checkForComodification_da8c8 8 = .ok (.getfield 22, 3) := by decide +kernel
theorem dJx35411_checkForComodification_da8c8_11 : decode cJx35411_checkForComodification_da8c8 11 = .ok (.if_icmp .eq 11, 3) := by decide +kernel
theorem dJx35411_checkForComodification_da8c8_14 : decode cJx35411_checkForComodification_da8c8 14 = .ok (.new 41, 3) := by decide +kernel
theorem dJx35411_checkForComodification_da8c8_17 : decode cJx35411_checkForComodification_da8c8 17 = .ok (.dup, 1) := by decide +kernel
theorem dJx35411_checkForComodification_da8c8_18 : decode cJx35411_checkForComodification_da8c8 18 = .ok (.invokespecial 43, 3) := by decide +kernel
theorem dJx35411_checkForComodification_da8c8_21 : decode cJx35411_checkForComodification_da8c8 21 = .ok (.athrow, 1) := by decide +kernel
theorem dJx35411_checkForComodification_da8c8_22 : decode cJx35411_checkForComodification_da8c8 22 = .ok (.return_, 1) := by decide +kernel
theorem dJx4a65c_init_da8c8_0 : decode cJx4a65c_init_da8c8 0 = .ok (.aload_n 0, 1) := by decide +kernel
theorem dJx4a65c_init_da8c8_1 : decode cJx4a65c_init_da8c8 1 = .ok (.invokespecial 1, 3) := by decide +kernel
theorem dJx4a65c_init_da8c8_4 : decode cJx4a65c_init_da8c8 4 = .ok (.aload_n 0, 1) := by decide +kernel
theorem dJx4a65c_init_da8c8_5 : decode cJx4a65c_init_da8c8 5 = .ok (.getstatic 39, 3) := by decide +kernel
theorem dJx4a65c_init_da8c8_8 : decode cJx4a65c_init_da8c8 8 = .ok (.putfield 9, 3) := by decide +kernel
theorem dJx4a65c_init_da8c8_11 : decode cJx4a65c_init_da8c8 11 = .ok (.return_, 1) := by decide +kernel
theorem dJx4a65c_grow_92f84_0 : decode cJx4a65c_grow_92f84 0 = .ok (.aload_n 0, 1) := by decide +kernel
theorem dJx4a65c_grow_92f84_1 : decode cJx4a65c_grow_92f84 1 = .ok (.getfield 9, 3) := by decide +kernel
theorem dJx4a65c_grow_92f84_4 : decode cJx4a65c_grow_92f84 4 = .ok (.arraylength, 1) := by decide +kernel
theorem dJx4a65c_grow_92f84_5 : decode cJx4a65c_grow_92f84 5 = .ok (.istore_n 2, 1) := by decide +kernel
theorem dJx4a65c_grow_92f84_6 : decode cJx4a65c_grow_92f84 6 = .ok (.iload_n 2, 1) := by decide +kernel
theorem dJx4a65c_grow_92f84_7 : decode cJx4a65c_grow_92f84 7 = .ok (.ifCond .gt 13, 3) := by decide +kernel
theorem dJx4a65c_grow_92f84_10 : decode cJx4a65c_grow_92f84 10 = .ok (.aload_n 0, 1) := by decide +kernel
theorem dJx4a65c_grow_92f84_11 : decode cJx4a65c_grow_92f84 11 = .ok (.getfield 9, 3) := by decide +kernel
theorem dJx4a65c_grow_92f84_14 : decode cJx4a65c_grow_92f84 14 = .ok (.getstatic 39, 3) := by decide +kernel
theorem dJx4a65c_grow_92f84_17 : decode cJx4a65c_grow_92f84 17 = .ok (.if_acmp .eq 28, 3) := by decide +kernel
theorem dJx4a65c_grow_92f84_20 : decode cJx4a65c_grow_92f84 20 = .ok (.iload_n 2, 1) := by decide +kernel
theorem dJx4a65c_grow_92f84_21 : decode cJx4a65c_grow_92f84 21 = .ok (.iload_n 1, 1) := by decide +kernel
theorem dJx4a65c_grow_92f84_22 : decode cJx4a65c_grow_92f84 22 = .ok (.iload_n 2, 1) := by decide +kernel
theorem dJx4a65c_grow_92f84_23 : decode cJx4a65c_grow_92f84 23 = .ok (.isub, 1) := by decide +kernel
theorem dJx4a65c_grow_92f84_24 : decode cJx4a65c_grow_92f84 24 = .ok (.iload_n 2, 1) := by decide +kernel
theorem dJx4a65c_grow_92f84_25 : decode cJx4a65c_grow_92f84 25 = .ok (.iconst 1, 1) := by decide +kernel
theorem dJx4a65c_grow_92f84_26 : decode cJx4a65c_grow_92f84 26 = .ok (.ishr, 1) := by decide +kernel
theorem dJx4a65c_grow_92f84_27 : decode cJx4a65c_grow_92f84 27 = .ok (.invokestatic 73, 3) := by decide +kernel
theorem dJx4a65c_grow_92f84_30 : decode cJx4a65c_grow_92f84 30 = .ok (.istore_n 3, 1) := by decide +kernel
theorem dJx4a65c_grow_92f84_31 : decode cJx4a65c_grow_92f84 31 = .ok (.aload_n 0, 1) := by decide +kernel
theorem dJx4a65c_grow_92f84_32 : decode cJx4a65c_grow_92f84 32 = .ok (.aload_n 0, 1) := by decide +kernel
theorem dJx4a65c_grow_92f84_33 : decode cJx4a65c_grow_92f84 33 = .ok (.getfield 9, 3) := by decide +kernel
theorem dJx4a65c_grow_92f84_36 : decode cJx4a65c_grow_92f84 36 = .ok (.iload_n 3, 1) := by decide +kernel
theorem dJx4a65c_grow_92f84_37 : decode cJx4a65c_grow_92f84 37 = .ok (.invokestatic 66, 3) := by decide +kernel
theorem dJx4a65c_grow_92f84_40 : decode cJx4a65c_grow_92f84 40 = .ok (.dup_x1, 1) := by decide +kernel
theorem dJx4a65c_grow_92f84_41 : decode cJx4a65c_grow_92f84 41 = .ok (.putfield 9, 3) := by decide +kernel
theorem dJx4a65c_grow_92f84_44 : decode cJx4a65c_grow_92f84 44 = .ok (.areturn, 1) := by decide +kernel
theorem dJx4a65c_grow_92f84_45 : decode cJx4a65c_grow_92f84 45 = .ok (.aload_n 0, 1) := by decide +kernel
theorem dJx4a65c_grow_92f84_46 : decode cJx4a65c_grow_92f84 46 = .ok (.bipush 10, 2) := by decide +kernel
theorem dJx4a65c_grow_92f84_48 : decode cJx4a65c_grow_92f84 48 = .ok (.iload_n 1, 1) := by decide +kernel
theorem dJx4a65c_grow_92f84_49 : decode cJx4a65c_grow_92f84 49 = .ok (.invokestatic 79, 3) := by decide +kernel
theorem dJx4a65c_grow_92f84_52 : decode cJx4a65c_grow_92f84 52 = .ok (.anewarray 7, 3) := by decide +kernel
theorem dJx4a65c_grow_92f84_55 : decode cJx4a65c_grow_92f84 55 = .ok (.dup_x1, 1) := by decide +kernel
theorem dJx4a65c_grow_92f84_56 : decode cJx4a65c_grow_92f84 56 = .ok (.putfield 9, 3) := by decide +kernel
theorem dJx4a65c_grow_92f84_59 : decode cJx4a65c_grow_92f84 59 = .ok (.areturn, 1) := by decide +kernel
theorem dJx4a65c_grow_d5877_0 : decode cJx4a65c_grow_d5877 0 = .ok (.aload_n 0, 1) := by decide +kernel
theorem dJx4a65c_grow_d5877_1 : decode cJx4a65c_grow_d5877 1 = .ok (.aload_n 0, 1) := by decide +kernel
theorem dJx4a65c_grow_d5877_2 : decode cJx4a65c_grow_d5877 2 = .ok (.getfield 48, 3) := by decide +kernel
theorem dJx4a65c_grow_d5877_5 : decode cJx4a65c_grow_d5877 5 = .ok (.iconst 1, 1) := by decide +kernel
theorem dJx4a65c_grow_d5877_6 : decode cJx4a65c_grow_d5877 6 = .ok (.iadd, 1) := by decide +kernel
theorem dJx4a65c_grow_d5877_7 : decode cJx4a65c_grow_d5877 7 = .ok (.invokevirtual 69, 3) := by decide +kernel
theorem dJx4a65c_grow_d5877_10 : decode cJx4a65c_grow_d5877 10 = .ok (.areturn, 1) := by decide +kernel
theorem dJx4a65c_size_8abf5_0 : decode cJx4a65c_size_8abf5 0 = .ok (.aload_n 0, 1) := by decide +kernel
theorem dJx4a65c_size_8abf5_1 : decode cJx4a65c_size_8abf5 1 = .ok (.getfield 48, 3) := by decide +kernel
theorem dJx4a65c_size_8abf5_4 : decode cJx4a65c_size_8abf5 4 = .ok (.ireturn, 1) := by decide +kernel
theorem dJx4a65c_isEmpty_aae02_0 : decode cJx4a65c_isEmpty_aae02 0 = .ok (.aload_n 0, 1) := by decide +kernel
theorem dJx4a65c_isEmpty_aae02_1 : decode cJx4a65c_isEmpty_aae02 1 = .ok (.getfield 48, 3) := by decide +kernel
theorem dJx4a65c_isEmpty_aae02_4 : decode cJx4a65c_isEmpty_aae02 4 = .ok (.ifCond .ne 7, 3) := by decide +kernel
theorem dJx4a65c_isEmpty_aae02_7 : decode cJx4a65c_isEmpty_aae02 7 = .ok (.iconst 1, 1) := by decide +kernel
theorem dJx4a65c_isEmpty_aae02_8 : decode cJx4a65c_isEmpty_aae02 8 = .ok (.goto 4, 3) := by decide +kernel
theorem dJx4a65c_isEmpty_aae02_11 : decode cJx4a65c_isEmpty_aae02 11 = .ok (.iconst 0, 1) := by decide +kernel
theorem dJx4a65c_isEmpty_aae02_12 : decode cJx4a65c_isEmpty_aae02 12 = .ok (.ireturn, 1) := by decide +kernel
theorem dJx4a65c_elementData_915e3_0 : decode cJx4a65c_elementData_915e3 0 = .ok (.aload_n 0, 1) := by decide +kernel
theorem dJx4a65c_elementData_915e3_1 : decode cJx4a65c_elementData_915e3 1 = .ok (.getfield 9, 3) := by decide +kernel
theorem dJx4a65c_elementData_915e3_4 : decode cJx4a65c_elementData_915e3 4 = .ok (.iload_n 1, 1) := by decide +kernel
theorem dJx4a65c_elementData_915e3_5 : decode cJx4a65c_elementData_915e3 5 = .ok (.aaload, 1) := by decide +kernel
theorem dJx4a65c_elementData_915e3_6 : decode cJx4a65c_elementData_915e3 6 = .ok (.areturn, 1) := by decide +kernel
theorem dJx4a65c_get_915e3_0 : decode cJx4a65c_get_915e3 0 = .ok (.iload_n 1, 1) := by decide +kernel
theorem dJx4a65c_get_915e3_1 : decode cJx4a65c_get_915e3 1 = .ok (.aload_n 0, 1) := by decide +kernel
theorem dJx4a65c_get_915e3_2 : decode cJx4a65c_get_915e3 2 = .ok (.getfield 48, 3) := by decide +kernel
theorem dJx4a65c_get_915e3_5 : decode cJx4a65c_get_915e3 5 = .ok (.invokestatic 118, 3) := by decide +kernel
theorem dJx4a65c_get_915e3_8 : decode cJx4a65c_get_915e3 8 = .ok (.pop, 1) := by decide +kernel
theorem dJx4a65c_get_915e3_9 : decode cJx4a65c_get_915e3 9 = .ok (.aload_n 0, 1) := by decide +kernel
theorem dJx4a65c_get_915e3_10 : decode cJx4a65c_get_915e3 10 = .ok (.iload_n 1, 1) := by decide +kernel
theorem dJx4a65c_get_915e3_11 : decode cJx4a65c_get_915e3 11 = .ok (.invokevirtual 123, 3) := by decide +kernel
theorem dJx4a65c_get_915e3_14 : decode cJx4a65c_get_915e3 14 = .ok (.areturn, 1) := by decide +kernel
theorem dJx4a65c_add_72be8_0 : decode cJx4a65c_add_72be8 0 = .ok (.iload_n 3, 1) := by decide +kernel
theorem dJx4a65c_add_72be8_1 : decode cJx4a65c_add_72be8 1 = .ok (.aload_n 2, 1) := by decide +kernel
theorem dJx4a65c_add_72be8_2 : decode cJx4a65c_add_72be8 2 = .ok (.arraylength, 1) := by decide +kernel
theorem dJx4a65c_add_72be8_3 : decode cJx4a65c_add_72be8 3 = .ok (.if_icmp .ne 8, 3) := by decide +kernel
theorem dJx4a65c_add_72be8_6 : decode cJx4a65c_add_72be8 6 = .ok (.aload_n 0, 1) := by decide +kernel
theorem dJx4a65c_add_72be8_7 : decode cJx4a65c_add_72be8 7 = .ok (.invokevirtual 129, 3) := by decide +kernel
theorem dJx4a65c_add_72be8_10 : decode cJx4a65c_add_72be8 10 = .ok (.astore_n 2, 1) := by decide +kernel
theorem dJx4a65c_add_72be8_11 : decode cJx4a65c_add_72be8 11 = .ok (.aload_n 2, 1) := by decide +kernel
theorem dJx4a65c_add_72be8_12 : decode cJx4a65c_add_72be8 12 = .ok (.iload_n 3, 1) := by decide +kernel
theorem dJx4a65c_add_72be8_13 : decode cJx4a65c_add_72be8 13 = .ok (.aload_n 1, 1) := by decide +kernel
theorem dJx4a65c_add_72be8_14 : decode cJx4a65c_add_72be8 14 = .ok (.aastore, 1) := by decide +kernel
theorem dJx4a65c_add_72be8_15 : decode cJx4a65c_add_72be8 15 = .ok (.aload_n 0, 1) := by decide +kernel
theorem dJx4a65c_add_72be8_16 : decode cJx4a65c_add_72be8 16 = .ok (.iload_n 3, 1) := by decide +kernel
theorem dJx4a65c_add_72be8_17 : decode cJx4a65c_add_72be8 17 = .ok (.iconst 1, 1) := by decide +kernel
theorem dJx4a65c_add_72be8_18 : decode cJx4a65c_add_72be8 18 = .ok (.iadd, 1) := by decide +kernel
theorem dJx4a65c_add_72be8_19 : decode cJx4a65c_add_72be8 19 = .ok (.putfield 48, 3) := by decide +kernel
theorem dJx4a65c_add_72be8_22 : decode cJx4a65c_add_72be8 22 = .ok (.return_, 1) := by decide +kernel
theorem dJx4a65c_add_9ea2d_0 : decode cJx4a65c_add_9ea2d 0 = .ok (.aload_n 0, 1) := by decide +kernel
theorem dJx4a65c_add_9ea2d_1 : decode cJx4a65c_add_9ea2d 1 = .ok (.dup, 1) := by decide +kernel
theorem dJx4a65c_add_9ea2d_2 : decode cJx4a65c_add_9ea2d 2 = .ok (.getfield 63, 3) := by decide +kernel
theorem dJx4a65c_add_9ea2d_5 : decode cJx4a65c_add_9ea2d 5 = .ok (.iconst 1, 1) := by decide +kernel
theorem dJx4a65c_add_9ea2d_6 : decode cJx4a65c_add_9ea2d 6 = .ok (.iadd, 1) := by decide +kernel
theorem dJx4a65c_add_9ea2d_7 : decode cJx4a65c_add_9ea2d 7 = .ok (.putfield 63, 3) := by decide +kernel
theorem dJx4a65c_add_9ea2d_10 : decode cJx4a65c_add_9ea2d 10 = .ok (.aload_n 0, 1) := by decide +kernel
theorem dJx4a65c_add_9ea2d_11 : decode cJx4a65c_add_9ea2d 11 = .ok (.aload_n 1, 1) := by decide +kernel
theorem dJx4a65c_add_9ea2d_12 : decode cJx4a65c_add_9ea2d 12 = .ok (.aload_n 0, 1) := by decide +kernel
theorem dJx4a65c_add_9ea2d_13 : decode cJx4a65c_add_9ea2d 13 = .ok (.getfield 9, 3) := by decide +kernel
theorem dJx4a65c_add_9ea2d_16 : decode cJx4a65c_add_9ea2d 16 = .ok (.aload_n 0, 1) := by decide +kernel
theorem dJx4a65c_add_9ea2d_17 : decode cJx4a65c_add_9ea2d 17 = .ok (.getfield 48, 3) := by decide +kernel
theorem dJx4a65c_add_9ea2d_20 : decode cJx4a65c_add_9ea2d 20 = .ok (.invokevirtual 131, 3) := by decide +kernel
theorem dJx4a65c_add_9ea2d_23 : decode cJx4a65c_add_9ea2d 23 = .ok (.iconst 1, 1) := by decide +kernel
theorem dJx4a65c_add_9ea2d_24 : decode cJx4a65c_add_9ea2d 24 = .ok (.ireturn, 1) := by decide +kernel
theorem dJx4a65c_remove_915e3_0 : decode cJx4a65c_remove_915e3 0 = .ok (.iload_n 1, 1) := by decide +kernel
theorem dJx4a65c_remove_915e3_1 : decode cJx4a65c_remove_915e3 1 = .ok (.aload_n 0, 1) := by decide +kernel
theorem dJx4a65c_remove_915e3_2 : decode cJx4a65c_remove_915e3 2 = .ok (.getfield 48, 3) := by decide +kernel
theorem dJx4a65c_remove_915e3_5 : decode cJx4a65c_remove_915e3 5 = .ok (.invokestatic 118, 3) := by decide +kernel
theorem dJx4a65c_remove_915e3_8 : decode cJx4a65c_remove_915e3 8 = .ok (.pop, 1) := by decide +kernel
theorem dJx4a65c_remove_915e3_9 : decode cJx4a65c_remove_915e3 9 = .ok (.aload_n 0, 1) := by decide +kernel
theorem dJx4a65c_remove_915e3_10 : decode cJx4a65c_remove_915e3 10 = .ok (.getfield 9, 3) := by decide +kernel
theorem dJx4a65c_remove_915e3_13 : decode cJx4a65c_remove_915e3 13 = .ok (.astore_n 2, 1) := by decide +kernel
theorem dJx4a65c_remove_915e3_14 : decode cJx4a65c_remove_915e3 14 = .ok (.aload_n 2, 1) := by decide +kernel
theorem dJx4a65c_remove_915e3_15 : decode cJx4a65c_remove_915e3 15 = .ok (.iload_n 1, 1) := by decide +kernel
theorem dJx4a65c_remove_915e3_16 : decode cJx4a65c_remove_915e3 16 = .ok (.aaload, 1) := by decide +kernel
theorem dJx4a65c_remove_915e3_17 : decode cJx4a65c_remove_915e3 17 = .ok (.astore_n 3, 1) := by decide +kernel
theorem dJx4a65c_remove_915e3_18 : decode cJx4a65c_remove_915e3 18 = .ok (.aload_n 0, 1) := by decide +kernel
theorem dJx4a65c_remove_915e3_19 : decode cJx4a65c_remove_915e3 19 = .ok (.aload_n 2, 1) := by decide +kernel
theorem dJx4a65c_remove_915e3_20 : decode cJx4a65c_remove_915e3 20 = .ok (.iload_n 1, 1) := by decide +kernel
theorem dJx4a65c_remove_915e3_21 : decode cJx4a65c_remove_915e3 21 = .ok (.invokevirtual 144, 3) := by decide +kernel
theorem dJx4a65c_remove_915e3_24 : decode cJx4a65c_remove_915e3 24 = .ok (.aload_n 3, 1) := by decide +kernel
theorem dJx4a65c_remove_915e3_25 : decode cJx4a65c_remove_915e3 25 = .ok (.areturn, 1) := by decide +kernel
theorem dJx4a65c_fastRemove_b59b0_0 : decode cJx4a65c_fastRemove_b59b0 0 = .ok (.aload_n 0, 1) := by decide +kernel
theorem dJx4a65c_fastRemove_b59b0_1 : decode cJx4a65c_fastRemove_b59b0 1 = .ok (.dup, 1) := by decide +kernel
theorem dJx4a65c_fastRemove_b59b0_2 : decode cJx4a65c_fastRemove_b59b0 2 = .ok (.getfield 63, 3) := by decide +kernel
theorem dJx4a65c_fastRemove_b59b0_5 : decode cJx4a65c_fastRemove_b59b0 5 = .ok (.iconst 1, 1) := by decide +kernel
theorem dJx4a65c_fastRemove_b59b0_6 : decode cJx4a65c_fastRemove_b59b0 6 = .ok (.iadd, 1) := by decide +kernel
theorem dJx4a65c_fastRemove_b59b0_7 : decode cJx4a65c_fastRemove_b59b0 7 = .ok (.putfield 63, 3) := by decide +kernel
theorem dJx4a65c_fastRemove_b59b0_10 : decode cJx4a65c_fastRemove_b59b0 10 = .ok (.aload_n 0, 1) := by decide +kernel
theorem dJx4a65c_fastRemove_b59b0_11 : decode cJx4a65c_fastRemove_b59b0 11 = .ok (.getfield 48, 3) := by decide +kernel
theorem dJx4a65c_fastRemove_b59b0_14 : decode cJx4a65c_fastRemove_b59b0 14 = .ok (.iconst 1, 1) := by decide +kernel
theorem dJx4a65c_fastRemove_b59b0_15 : decode cJx4a65c_fastRemove_b59b0 15 = .ok (.isub, 1) := by decide +kernel
theorem dJx4a65c_fastRemove_b59b0_16 : decode cJx4a65c_fastRemove_b59b0 16 = .ok (.dup, 1) := by decide +kernel
theorem dJx4a65c_fastRemove_b59b0_17 : decode cJx4a65c_fastRemove_b59b0 17 = .ok (.istore_n 3, 1) := by decide +kernel
theorem dJx4a65c_fastRemove_b59b0_18 : decode cJx4a65c_fastRemove_b59b0 18 = .ok (.iload_n 2, 1) := by decide +kernel
theorem dJx4a65c_fastRemove_b59b0_19 : decode cJx4a65c_fastRemove_b59b0 19 = .ok (.if_icmp .le 15, 3) := by decide +kernel
theorem dJx4a65c_fastRemove_b59b0_22 : decode cJx4a65c_fastRemove_b59b0 22 = .ok (.aload_n 1, 1) := by decide +kernel
theorem dJx4a65c_fastRemove_b59b0_23 : decode cJx4a65c_fastRemove_b59b0 23 = .ok (.iload_n 2, 1) := by decide +kernel
theorem dJx4a65c_fastRemove_b59b0_24 : decode cJx4a65c_fastRemove_b59b0 24 = .ok (.iconst 1, 1) := by decide +kernel
theorem dJx4a65c_fastRemove_b59b0_25 : decode cJx4a65c_fastRemove_b59b0 25 = .ok (.iadd, 1) := by decide +kernel
theorem dJx4a65c_fastRemove_b59b0_26 : decode cJx4a65c_fastRemove_b59b0 26 = .ok (.aload_n 1, 1) := by decide +kernel
theorem dJx4a65c_fastRemove_b59b0_27 : decode cJx4a65c_fastRemove_b59b0 27 = .ok (.iload_n 2, 1) := by decide +kernel
theorem dJx4a65c_fastRemove_b59b0_28 : decode cJx4a65c_fastRemove_b59b0 28 = .ok (.iload_n 3, 1) := by decide +kernel
theorem dJx4a65c_fastRemove_b59b0_29 : decode cJx4a65c_fastRemove_b59b0 29 = .ok (.iload_n 2, 1) := by decide +kernel
theorem dJx4a65c_fastRemove_b59b0_30 : decode cJx4a65c_fastRemove_b59b0 30 = .ok (.isub, 1) := by decide +kernel
theorem dJx4a65c_fastRemove_b59b0_31 : decode cJx4a65c_fastRemove_b59b0 31 = .ok (.invokestatic 112, 3) := by decide +kernel
theorem dJx4a65c_fastRemove_b59b0_34 : decode cJx4a65c_fastRemove_b59b0 34 = .ok (.aload_n 1, 1) := by decide +kernel
theorem dJx4a65c_fastRemove_b59b0_35 : decode cJx4a65c_fastRemove_b59b0 35 = .ok (.aload_n 0, 1) := by decide +kernel
theorem dJx4a65c_fastRemove_b59b0_36 : decode cJx4a65c_fastRemove_b59b0 36 = .ok (.iload_n 3, 1) := by decide +kernel
theorem dJx4a65c_fastRemove_b59b0_37 : decode cJx4a65c_fastRemove_b59b0 37 = .ok (.dup_x1, 1) := by decide +kernel
theorem dJx4a65c_fastRemove_b59b0_38 : decode cJx4a65c_fastRemove_b59b0 38 = .ok (.putfield 48, 3) := by decide +kernel
theorem dJx4a65c_fastRemove_b59b0_41 : decode cJx4a65c_fastRemove_b59b0 41 = .ok (.aconst_null, 1) := by decide +kernel
theorem dJx4a65c_fastRemove_b59b0_42 : decode cJx4a65c_fastRemove_b59b0 42 = .ok (.aastore, 1) := by decide +kernel
theorem dJx4a65c_fastRemove_b59b0_43 : decode cJx4a65c_fastRemove_b59b0 43 = .ok (.return_, 1) := by decide +kernel
theorem dJx4a65c_clear_da8c8_0 : decode cJx4a65c_clear_da8c8 0 = .ok (.aload_n 0, 1) := by decide +kernel
theorem dJx4a65c_clear_da8c8_1 : decode cJx4a65c_clear_da8c8 1 = .ok (.dup, 1) := by decide +kernel
theorem dJx4a65c_clear_da8c8_2 : decode cJx4a65c_clear_da8c8 2 = .ok (.getfield 63, 3) := by decide +kernel
theorem dJx4a65c_clear_da8c8_5 : decode cJx4a65c_clear_da8c8 5 = .ok (.iconst 1, 1) := by decide +kernel
theorem dJx4a65c_clear_da8c8_6 : decode cJx4a65c_clear_da8c8 6 = .ok (.iadd, 1) := by decide +kernel
theorem dJx4a65c_clear_da8c8_7 : decode cJx4a65c_clear_da8c8 7 = .ok (.putfield 63, 3) := by decide +kernel
theorem dJx4a65c_clear_da8c8_10 : decode cJx4a65c_clear_da8c8 10 = .ok (.aload_n 0, 1) := by decide +kernel
theorem dJx4a65c_clear_da8c8_11 : decode cJx4a65c_clear_da8c8 11 = .ok (.getfield 9, 3) := by decide +kernel
theorem dJx4a65c_clear_da8c8_14 : decode cJx4a65c_clear_da8c8 14 = .ok (.astore_n 1, 1) := by decide +kernel
theorem dJx4a65c_clear_da8c8_15 : decode cJx4a65c_clear_da8c8 15 = .ok (.aload_n 0, 1) := by decide +kernel
theorem dJx4a65c_clear_da8c8_16 : decode cJx4a65c_clear_da8c8 16 = .ok (.getfield 48, 3) := by decide +kernel
theorem dJx4a65c_clear_da8c8_19 : decode cJx4a65c_clear_da8c8 19 = .ok (.istore_n 2, 1) := by decide +kernel
theorem dJx4a65c_clear_da8c8_20 : decode cJx4a65c_clear_da8c8 20 = .ok (.aload_n 0, 1) := by decide +kernel
theorem dJx4a65c_clear_da8c8_21 : decode cJx4a65c_clear_da8c8 21 = .ok (.iconst 0, 1) := by decide +kernel
theorem dJx4a65c_clear_da8c8_22 : decode cJx4a65c_clear_da8c8 22 = .ok (.dup_x1, 1) := by decide +kernel
theorem dJx4a65c_clear_da8c8_23 : decode cJx4a65c_clear_da8c8 23 = .ok (.putfield 48, 3) := by decide +kernel
theorem dJx4a65c_clear_da8c8_26 : decode cJx4a65c_clear_da8c8 26 = .ok (.istore_n 3, 1) := by decide +kernel
theorem dJx4a65c_clear_da8c8_27 : decode cJx4a65c_clear_da8c8 27 = .ok (.iload_n 3, 1) := by decide +kernel
theorem dJx4a65c_clear_da8c8_28 : decode cJx4a65c_clear_da8c8 28 = .ok (.iload_n 2, 1) := by decide +kernel
theorem dJx4a65c_clear_da8c8_29 : decode cJx4a65c_clear_da8c8 29 = .ok (.if_icmp .ge 13, 3) := by decide +kernel
theorem dJx4a65c_clear_da8c8_32 : decode cJx4a65c_clear_da8c8 32 = .ok (.aload_n 1, 1) := by decide +kernel
theorem dJx4a65c_clear_da8c8_33 : decode cJx4a65c_clear_da8c8 33 = .ok (.iload_n 3, 1) := by decide +kernel
theorem dJx4a65c_clear_da8c8_34 : decode cJx4a65c_clear_da8c8 34 = .ok (.aconst_null, 1) := by decide +kernel
theorem dJx4a65c_clear_da8c8_35 : decode cJx4a65c_clear_da8c8 35 = .ok (.aastore, 1) := by decide +kernel
theorem dJx4a65c_clear_da8c8_36 : decode cJx4a65c_clear_da8c8 36 = .ok (.iinc 3 1, 3) := by decide +kernel
theorem dJx4a65c_clear_da8c8_39 : decode cJx4a65c_clear_da8c8 39 = .ok (.goto (-12), 3) := by decide +kernel
theorem dJx4a65c_clear_da8c8_42 : decode cJx4a65c_clear_da8c8 42 = .ok (.return_, 1) := by decide +kernel
theorem dJx4a65c_iterator_32c93_0 : decode cJx4a65c_iterator_32c93 0 = .ok (.new 267, 3) := by decide +kernel
theorem dJx4a65c_iterator_32c93_3 : decode cJx4a65c_iterator_32c93 3 = .ok (.dup, 1) := by decide +kernel
theorem dJx4a65c_iterator_32c93_4 : decode cJx4a65c_iterator_32c93 4 = .ok (.aload_n 0, 1) := by decide +kernel
theorem dJx4a65c_iterator_32c93_5 : decode cJx4a65c_iterator_32c93 5 = .ok (.invokespecial 269, 3) := by decide +kernel
theorem dJx4a65c_iterator_32c93_8 : decode cJx4a65c_iterator_32c93 8 = .ok (.areturn, 1) := by decide +kernel
theorem dJ7_fill_53178_0 : decode cJ7_fill_53178 0 = .ok (.iconst 0, 1) := by decide +kernel
theorem dJ7_fill_53178_1 : decode cJ7_fill_53178 1 = .ok (.istore_n 2, 1) := by decide +kernel
theorem dJ7_fill_53178_2 : decode cJ7_fill_53178 2 = .ok (.aload_n 0, 1) := by decide +kernel
theorem dJ7_fill_53178_3 : decode cJ7_fill_53178 3 = .ok (.arraylength, 1) := by decide +kernel
theorem dJ7_fill_53178_4 : decode cJ7_fill_53178 4 = .ok (.istore_n 3, 1) := by decide +kernel
theorem dJ7_fill_53178_5 : decode cJ7_fill_53178 5 = .ok (.iload_n 2, 1) := by decide +kernel
theorem dJ7_fill_53178_6 : decode cJ7_fill_53178 6 = .ok (.iload_n 3, 1) := by decide +kernel
theorem dJ7_fill_53178_7 : decode cJ7_fill_53178 7 = .ok (.if_icmp .ge 13, 3) := by decide +kernel
theorem dJ7_fill_53178_10 : decode cJ7_fill_53178 10 = .ok (.aload_n 0, 1) := by decide +kernel
theorem dJ7_fill_53178_11 : decode cJ7_fill_53178 11 = .ok (.iload_n 2, 1) := by decide +kernel
theorem dJ7_fill_53178_12 : decode cJ7_fill_53178 12 = .ok (.iload_n 1, 1) := by decide +kernel
theorem dJ7_fill_53178_13 : decode cJ7_fill_53178 13 = .ok (.iastore, 1) := by decide +kernel
theorem dJ7_fill_53178_14 : decode cJ7_fill_53178 14 = .ok (.iinc 2 1, 3) := by decide +kernel
theorem dJ7_fill_53178_17 : decode cJ7_fill_53178 17 = .ok (.goto (-12), 3) := by decide +kernel
theorem dJ7_fill_53178_20 : decode cJ7_fill_53178 20 = .ok (.return_, 1) := by decide +kernel
theorem dJ7_copyOf_1904c_0 : decode cJ7_copyOf_1904c 0 = .ok (.aload_n 0, 1) := by decide +kernel
theorem dJ7_copyOf_1904c_1 : decode cJ7_copyOf_1904c 1 = .ok (.iload_n 1, 1) := by decide +kernel
theorem dJ7_copyOf_1904c_2 : decode cJ7_copyOf_1904c 2 = .ok (.aload_n 0, 1) := by decide +kernel
theorem dJ7_copyOf_1904c_3 : decode cJ7_copyOf_1904c 3 = .ok (.invokevirtual 86, 3) := by decide +kernel
theorem dJ7_copyOf_1904c_6 : decode cJ7_copyOf_1904c 6 = .ok (.invokestatic 300, 3) := by decide +kernel
theorem dJ7_copyOf_1904c_9 : decode cJ7_copyOf_1904c 9 = .ok (.areturn, 1) := by decide +kernel
theorem dJ7_copyOf_6403c_0 : decode cJ7_copyOf_6403c 0 = .ok (.aload_n 2, 1) := by decide +kernel
theorem dJ7_copyOf_6403c_1 : decode cJ7_copyOf_6403c 1 = .ok (.ldc 110, 2) := by decide +kernel
theorem dJ7_copyOf_6403c_3 : decode cJ7_copyOf_6403c 3 = .ok (.if_acmp .ne 10, 3) := by decide +kernel
theorem dJ7_copyOf_6403c_6 : decode cJ7_copyOf_6403c 6 = .ok (.iload_n 1, 1) := by decide +kernel
theorem dJ7_copyOf_6403c_7 : decode cJ7_copyOf_6403c 7 = .ok (.anewarray 2, 3) := by decide +kernel
theorem dJ7_copyOf_6403c_10 : decode cJ7_copyOf_6403c 10 = .ok (.goto 14, 3) := by decide +kernel
theorem dJ7_copyOf_6403c_13 : decode cJ7_copyOf_6403c 13 = .ok (.aload_n 2, 1) := by decide +kernel
theorem dJ7_copyOf_6403c_14 : decode cJ7_copyOf_6403c 14 = .ok (.invokevirtual 90, 3) := by decide +kernel
theorem dJ7_copyOf_6403c_17 : decode cJ7_copyOf_6403c 17 = .ok (.iload_n 1, 1) := by decide +kernel
theorem dJ7_copyOf_6403c_18 : decode cJ7_copyOf_6403c 18 = .ok (.invokestatic 95, 3) := by decide +kernel
theorem dJ7_copyOf_6403c_21 : decode cJ7_copyOf_6403c 21 = .ok (.checkcast 110, 3) := by decide +kernel
theorem dJ7_copyOf_6403c_24 : decode cJ7_copyOf_6403c 24 = .ok (.astore_n 3, 1) := by decide +kernel
theorem dJ7_copyOf_6403c_25 : decode cJ7_copyOf_6403c 25 = .ok (.aload_n 0, 1) := by decide +kernel
theorem dJ7_copyOf_6403c_26 : decode cJ7_copyOf_6403c 26 = .ok (.iconst 0, 1) := by decide +kernel
theorem dJ7_copyOf_6403c_27 : decode cJ7_copyOf_6403c 27 = .ok (.aload_n 3, 1) := by decide +kernel
theorem dJ7_copyOf_6403c_28 : decode cJ7_copyOf_6403c 28 = .ok (.iconst 0, 1) := by decide +kernel
theorem dJ7_copyOf_6403c_29 : decode cJ7_copyOf_6403c 29 = .ok (.aload_n 0, 1) := by decide +kernel
theorem dJ7_copyOf_6403c_30 : decode cJ7_copyOf_6403c 30 = .ok (.arraylength, 1) := by decide +kernel
theorem dJ7_copyOf_6403c_31 : decode cJ7_copyOf_6403c 31 = .ok (.iload_n 1, 1) := by decide +kernel
theorem dJ7_copyOf_6403c_32 : decode cJ7_copyOf_6403c 32 = .ok (.invokestatic 304, 3) := by decide +kernel
theorem dJ7_copyOf_6403c_35 : decode cJ7_copyOf_6403c 35 = .ok (.invokestatic 150, 3) := by decide +kernel
theorem dJ7_copyOf_6403c_38 : decode cJ7_copyOf_6403c 38 = .ok (.aload_n 3, 1) := by decide +kernel
theorem dJ7_copyOf_6403c_39 : decode cJ7_copyOf_6403c 39 = .ok (.areturn, 1) := by decide +kernel
theorem dJ15_checkIndex_7cf53_0 : decode cJ15_checkIndex_7cf53 0 = .ok (.iload_n 0, 1) := by decide +kernel
theorem dJ15_checkIndex_7cf53_1 : decode cJ15_checkIndex_7cf53 1 = .ok (.iload_n 1, 1) := by decide +kernel
theorem dJ15_checkIndex_7cf53_2 : decode cJ15_checkIndex_7cf53 2 = .ok (.aconst_null, 1) := by decide +kernel
theorem dJ15_checkIndex_7cf53_3 : decode cJ15_checkIndex_7cf53 3 = .ok (.invokestatic 105, 3) := by decide +kernel
theorem dJ15_checkIndex_7cf53_6 : decode cJ15_checkIndex_7cf53 6 = .ok (.ireturn, 1) := by decide +kernel
theorem dJ8_newLength_cabcc_0 : decode cJ8_newLength_cabcc 0 = .ok (.iload_n 0, 1) := by decide +kernel
theorem dJ8_newLength_cabcc_1 : decode cJ8_newLength_cabcc 1 = .ok (.iload_n 1, 1) := by decide +kernel
theorem dJ8_newLength_cabcc_2 : decode cJ8_newLength_cabcc 2 = .ok (.iload_n 2, 1) := by decide +kernel
theorem dJ8_newLength_cabcc_3 : decode cJ8_newLength_cabcc 3 = .ok (.invokestatic 194, 3) := by decide +kernel
theorem dJ8_newLength_cabcc_6 : decode cJ8_newLength_cabcc 6 = .ok (.iadd, 1) := by decide +kernel
theorem dJ8_newLength_cabcc_7 : decode cJ8_newLength_cabcc 7 = .ok (.istore_n 3, 1) := by decide +kernel
theorem dJ8_newLength_cabcc_8 : decode cJ8_newLength_cabcc 8 = .ok (.iconst 0, 1) := by decide +kernel
theorem dJ8_newLength_cabcc_9 : decode cJ8_newLength_cabcc 9 = .ok (.iload_n 3, 1) := by decide +kernel
theorem dJ8_newLength_cabcc_10 : decode cJ8_newLength_cabcc 10 = .ok (.if_icmp .ge 11, 3) := by decide +kernel
theorem dJ8_newLength_cabcc_13 : decode cJ8_newLength_cabcc 13 = .ok (.iload_n 3, 1) := by decide +kernel
theorem dJ8_newLength_cabcc_14 : decode cJ8_newLength_cabcc 14 = .ok (.ldc 200, 2) := by decide +kernel
theorem dJ8_newLength_cabcc_16 : decode cJ8_newLength_cabcc 16 = .ok (.if_icmp .gt 5, 3) := by decide +kernel
theorem dJ8_newLength_cabcc_19 : decode cJ8_newLength_cabcc 19 = .ok (.iload_n 3, 1) := by decide +kernel
theorem dJ8_newLength_cabcc_20 : decode cJ8_newLength_cabcc 20 = .ok (.ireturn, 1) := by decide +kernel
theorem dJ8_newLength_cabcc_21 : decode cJ8_newLength_cabcc 21 = .ok (.iload_n 0, 1) := by decide +kernel
theorem dJ8_newLength_cabcc_22 : decode cJ8_newLength_cabcc 22 = .ok (.iload_n 1, 1) := by decide +kernel
theorem dJ8_newLength_cabcc_23 : decode cJ8_newLength_cabcc 23 = .ok (.invokestatic 201, 3) := by decide +kernel
theorem dJ8_newLength_cabcc_26 : decode cJ8_newLength_cabcc 26 = .ok (.ireturn, 1) := by decide +kernel
theorem dJ8_hugeLength_7cf53_0 : decode cJ8_hugeLength_7cf53 0 = .ok (.iload_n 0, 1) := by decide +kernel
theorem dJ8_hugeLength_7cf53_1 : decode cJ8_hugeLength_7cf53 1 = .ok (.iload_n 1, 1) := by decide +kernel
theorem dJ8_hugeLength_7cf53_2 : decode cJ8_hugeLength_7cf53 2 = .ok (.iadd, 1) := by decide +kernel
theorem dJ8_hugeLength_7cf53_3 : decode cJ8_hugeLength_7cf53 3 = .ok (.istore_n 2, 1) := by decide +kernel
theorem dJ8_hugeLength_7cf53_4 : decode cJ8_hugeLength_7cf53 4 = .ok (.iload_n 2, 1) := by decide +kernel
theorem dJ8_hugeLength_7cf53_5 : decode cJ8_hugeLength_7cf53 5 = .ok (.ifCond .ge 44, 3) := by decide +kernel
theorem dJ8_hugeLength_7cf53_8 : decode cJ8_hugeLength_7cf53 8 = .ok (.new 204, 3) := by decide +kernel
theorem dJ8_hugeLength_7cf53_11 : decode cJ8_hugeLength_7cf53 11 = .ok (.dup, 1) := by decide +kernel
theorem dJ8_hugeLength_7cf53_12 : decode cJ8_hugeLength_7cf53 12 = .ok (.new 89, 3) := by decide +kernel
theorem dJ8_hugeLength_7cf53_15 : decode cJ8_hugeLength_7cf53 15 = .ok (.dup, 1) := by decide +kernel
theorem dJ8_hugeLength_7cf53_16 : decode cJ8_hugeLength_7cf53 16 = .ok (.invokespecial 91, 3) := by decide +kernel
theorem dJ8_hugeLength_7cf53_19 : decode cJ8_hugeLength_7cf53 19 = .ok (.ldc 206, 2) := by decide +kernel
theorem dJ8_hugeLength_7cf53_21 : decode cJ8_hugeLength_7cf53 21 = .ok (.invokevirtual 94, 3) := by decide +kernel
theorem dJ8_hugeLength_7cf53_24 : decode cJ8_hugeLength_7cf53 24 = .ok (.iload_n 0, 1) := by decide +kernel
theorem dJ8_hugeLength_7cf53_25 : decode cJ8_hugeLength_7cf53 25 = .ok (.invokevirtual 98, 3) := by decide +kernel
theorem dJ8_hugeLength_7cf53_28 : decode cJ8_hugeLength_7cf53 28 = .ok (.ldc 208, 2) := by decide +kernel
theorem dJ8_hugeLength_7cf53_30 : decode cJ8_hugeLength_7cf53 30 = .ok (.invokevirtual 94, 3) := by decide +kernel
theorem dJ8_hugeLength_7cf53_33 : decode cJ8_hugeLength_7cf53 33 = .ok (.iload_n 1, 1) := by decide +kernel
theorem dJ8_hugeLength_7cf53_34 : decode cJ8_hugeLength_7cf53 34 = .ok (.invokevirtual 98, 3) := by decide +kernel
theorem dJ8_hugeLength_7cf53_37 : decode cJ8_hugeLength_7cf53 37 = .ok (.ldc 210, 2) := by decide +kernel
theorem dJ8_hugeLength_7cf53_39 : decode cJ8_hugeLength_7cf53 39 = .ok (.invokevirtual 94, 3) := by decide +kernel
theorem dJ8_hugeLength_7cf53_42 : decode cJ8_hugeLength_7cf53 42 = .ok (.invokevirtual 101, 3) := by decide +kernel
theorem dJ8_hugeLength_7cf53_45 : decode cJ8_hugeLength_7cf53 45 = .ok (.invokespecial 212, 3) := by decide +kernel
theorem dJ8_hugeLength_7cf53_48 : decode cJ8_hugeLength_7cf53 48 = .ok (.athrow, 1) := by decide +kernel
theorem dJ8_hugeLength_7cf53_49 : decode cJ8_hugeLength_7cf53 49 = .ok (.iload_n 2, 1) := by decide +kernel
theorem dJ8_hugeLength_7cf53_50 : decode cJ8_hugeLength_7cf53 50 = .ok (.ldc 200, 2) := by decide +kernel
theorem dJ8_hugeLength_7cf53_52 : decode cJ8_hugeLength_7cf53 52 = .ok (.if_icmp .gt 6, 3) := by decide +kernel
theorem dJ8_hugeLength_7cf53_55 : decode cJ8_hugeLength_7cf53 55 = .ok (.ldc 200, 2) := by decide +kernel
theorem dJ8_hugeLength_7cf53_57 : decode cJ8_hugeLength_7cf53 57 = .ok (.ireturn, 1) := by decide +kernel
theorem dJ8_hugeLength_7cf53_58 : decode cJ8_hugeLength_7cf53 58 = .ok (.iload_n 2, 1) := by decide +kernel
theorem dJ8_hugeLength_7cf53_59 : decode cJ8_hugeLength_7cf53 59 = .ok (.ireturn, 1) := by decide +kernel
theorem dJ3_checkIndex_8e157_0 : decode cJ3_checkIndex_8e157 0 = .ok (.iload_n 0, 1) := by decide +kernel
theorem dJ3_checkIndex_8e157_1 : decode cJ3_checkIndex_8e157 1 = .ok (.ifCond .lt 8, 3) := by decide +kernel
theorem dJ3_checkIndex_8e157_4 : decode cJ3_checkIndex_8e157 4 = .ok (.iload_n 0, 1) := by decide +kernel
theorem dJ3_checkIndex_8e157_5 : decode cJ3_checkIndex_8e157 5 = .ok (.iload_n 1, 1) := by decide +kernel
theorem dJ3_checkIndex_8e157_6 : decode cJ3_checkIndex_8e157 6 = .ok (.if_icmp .lt 10, 3) := by decide +kernel
theorem dJ3_checkIndex_8e157_9 : decode cJ3_checkIndex_8e157 9 = .ok (.aload_n 2, 1) := by decide +kernel
theorem dJ3_checkIndex_8e157_10 : decode cJ3_checkIndex_8e157 10 = .ok (.iload_n 0, 1) := by decide +kernel
theorem dJ3_checkIndex_8e157_11 : decode cJ3_checkIndex_8e157 11 = .ok (.iload_n 1, 1) := by decide +kernel
theorem dJ3_checkIndex_8e157_12 : decode cJ3_checkIndex_8e157 12 = .ok (.invokestatic 95, 3) := by decide +kernel
theorem dJ3_checkIndex_8e157_15 : decode cJ3_checkIndex_8e157 15 = .ok (.athrow, 1) := by decide +kernel
theorem dJ3_checkIndex_8e157_16 : decode cJ3_checkIndex_8e157 16 = .ok (.iload_n 0, 1) := by decide +kernel
theorem dJ3_checkIndex_8e157_17 : decode cJ3_checkIndex_8e157 17 = .ok (.ireturn, 1) := by decide +kernel
theorem dJ3_checkFromToIndex_8c36e_0 : decode cJ3_checkFromToIndex_8c36e 0 = .ok (.iload_n 0, 1) := by decide +kernel
theorem dJ3_checkFromToIndex_8c36e_1 : decode cJ3_checkFromToIndex_8c36e 1 = .ok (.ifCond .lt 13, 3) := by decide +kernel
theorem dJ3_checkFromToIndex_8c36e_4 : decode cJ3_checkFromToIndex_8c36e 4 = .ok (.iload_n 0, 1) := by decide +kernel
theorem dJ3_checkFromToIndex_8c36e_5 : decode cJ3_checkFromToIndex_8c36e 5 = .ok (.iload_n 1, 1) := by decide +kernel
theorem dJ3_checkFromToIndex_8c36e_6 : decode cJ3_checkFromToIndex_8c36e 6 = .ok (.if_icmp .gt 8, 3) := by decide +kernel
theorem dJ3_checkFromToIndex_8c36e_9 : decode cJ3_checkFromToIndex_8c36e 9 = .ok (.iload_n 1, 1) := by decide +kernel
theorem dJ3_checkFromToIndex_8c36e_10 : decode cJ3_checkFromToIndex_8c36e 10 = .ok (.iload_n 2, 1) := by decide +kernel
theorem dJ3_checkFromToIndex_8c36e_11 : decode cJ3_checkFromToIndex_8c36e 11 = .ok (.if_icmp .le 11, 3) := by decide +kernel
theorem dJ3_checkFromToIndex_8c36e_14 : decode cJ3_checkFromToIndex_8c36e 14 = .ok (.aload_n 3, 1) := by decide +kernel
theorem dJ3_checkFromToIndex_8c36e_15 : decode cJ3_checkFromToIndex_8c36e 15 = .ok (.iload_n 0, 1) := by decide +kernel
theorem dJ3_checkFromToIndex_8c36e_16 : decode cJ3_checkFromToIndex_8c36e 16 = .ok (.iload_n 1, 1) := by decide +kernel
theorem dJ3_checkFromToIndex_8c36e_17 : decode cJ3_checkFromToIndex_8c36e 17 = .ok (.iload_n 2, 1) := by decide +kernel
theorem dJ3_checkFromToIndex_8c36e_18 : decode cJ3_checkFromToIndex_8c36e 18 = .ok (.invokestatic 99, 3) := by decide +kernel
theorem dJ3_checkFromToIndex_8c36e_21 : decode cJ3_checkFromToIndex_8c36e 21 = .ok (.athrow, 1) := by decide +kernel
theorem dJ3_checkFromToIndex_8c36e_22 : decode cJ3_checkFromToIndex_8c36e 22 = .ok (.iload_n 0, 1) := by decide +kernel
theorem dJ3_checkFromToIndex_8c36e_23 : decode cJ3_checkFromToIndex_8c36e 23 = .ok (.ireturn, 1) := by decide +kernel
theorem dL_rock_0 : decode cL_rock 0 = .ok (.aload_n 3, 1) := by decide +kernel
theorem dL_rock_1 : decode cL_rock 1 = .ok (.iconst 0, 1) := by decide +kernel
theorem dL_rock_2 : decode cL_rock 2 = .ok (.aload_n 0, 1) := by decide +kernel
theorem dL_rock_3 : decode cL_rock 3 = .ok (.iload_n 1, 1) := by decide +kernel
theorem dL_rock_4 : decode cL_rock 4 = .ok (.iload_n 2, 1) := by decide +kernel
theorem dL_rock_5 : decode cL_rock 5 = .ok (.invokevirtual 7, 3) := by decide +kernel
theorem dL_rock_8 : decode cL_rock 8 = .ok (.i2l, 1) := by decide +kernel
theorem dL_rock_9 : decode cL_rock 9 = .ok (.lastore, 1) := by decide +kernel
theorem dL_rock_10 : decode cL_rock 10 = .ok (.goto 15, 3) := by decide +kernel
theorem dL_rock_13 : decode cL_rock 13 = .ok (.astore 4, 2) := by decide +kernel
theorem dL_rock_15 : decode cL_rock 15 = .ok (.iconst 1, 1) := by decide +kernel
theorem dL_rock_16 : decode cL_rock 16 = .ok (.ireturn, 1) := by decide +kernel
theorem dL_rock_17 : decode cL_rock 17 = .ok (.astore 4, 2) := by decide +kernel
theorem dL_rock_19 : decode cL_rock 19 = .ok (.iconst 2, 1) := by decide +kernel
theorem dL_rock_20 : decode cL_rock 20 = .ok (.ireturn, 1) := by decide +kernel
theorem dL_rock_21 : decode cL_rock 21 = .ok (.astore 4, 2) := by decide +kernel
theorem dL_rock_23 : decode cL_rock 23 = .ok (.iconst 3, 1) := by decide +kernel
theorem dL_rock_24 : decode cL_rock 24 = .ok (.ireturn, 1) := by decide +kernel
theorem dL_rock_25 : decode cL_rock 25 = .ok (.iconst 0, 1) := by decide +kernel
theorem dL_rock_26 : decode cL_rock 26 = .ok (.ireturn, 1) := by decide +kernel
theorem dL_sample_0 : decode cL_sample 0 = .ok (.aload_n 3, 1) := by decide +kernel
theorem dL_sample_1 : decode cL_sample 1 = .ok (.iconst 0, 1) := by decide +kernel
theorem dL_sample_2 : decode cL_sample 2 = .ok (.aload_n 0, 1) := by decide +kernel
theorem dL_sample_3 : decode cL_sample 3 = .ok (.iload_n 1, 1) := by decide +kernel
theorem dL_sample_4 : decode cL_sample 4 = .ok (.iload_n 2, 1) := by decide +kernel
theorem dL_sample_5 : decode cL_sample 5 = .ok (.invokevirtual 19, 3) := by decide +kernel
theorem dL_sample_8 : decode cL_sample 8 = .ok (.i2l, 1) := by decide +kernel
theorem dL_sample_9 : decode cL_sample 9 = .ok (.lastore, 1) := by decide +kernel
theorem dL_sample_10 : decode cL_sample 10 = .ok (.goto 15, 3) := by decide +kernel
theorem dL_sample_13 : decode cL_sample 13 = .ok (.astore 4, 2) := by decide +kernel
theorem dL_sample_15 : decode cL_sample 15 = .ok (.iconst 1, 1) := by decide +kernel
theorem dL_sample_16 : decode cL_sample 16 = .ok (.ireturn, 1) := by decide +kernel
theorem dL_sample_17 : decode cL_sample 17 = .ok (.astore 4, 2) := by decide +kernel
theorem dL_sample_19 : decode cL_sample 19 = .ok (.iconst 2, 1) := by decide +kernel
theorem dL_sample_20 : decode cL_sample 20 = .ok (.ireturn, 1) := by decide +kernel
theorem dL_sample_21 : decode cL_sample 21 = .ok (.astore 4, 2) := by decide +kernel
theorem dL_sample_23 : decode cL_sample 23 = .ok (.iconst 3, 1) := by decide +kernel
theorem dL_sample_24 : decode cL_sample 24 = .ok (.ireturn, 1) := by decide +kernel
theorem dL_sample_25 : decode cL_sample 25 = .ok (.iconst 0, 1) := by decide +kernel
theorem dL_sample_26 : decode cL_sample 26 = .ok (.ireturn, 1) := by decide +kernel
theorem dL_tellTruth_0 : decode cL_tellTruth 0 = .ok (.aload_n 3, 1) := by decide +kernel
theorem dL_tellTruth_1 : decode cL_tellTruth 1 = .ok (.iconst 0, 1) := by decide +kernel
theorem dL_tellTruth_2 : decode cL_tellTruth 2 = .ok (.aload_n 0, 1) := by decide +kernel
theorem dL_tellTruth_3 : decode cL_tellTruth 3 = .ok (.iload_n 1, 1) := by decide +kernel
theorem dL_tellTruth_4 : decode cL_tellTruth 4 = .ok (.iload_n 2, 1) := by decide +kernel
theorem dL_tellTruth_5 : decode cL_tellTruth 5 = .ok (.invokevirtual 25, 3) := by decide +kernel
theorem dL_tellTruth_8 : decode cL_tellTruth 8 = .ok (.i2l, 1) := by decide +kernel
theorem dL_tellTruth_9 : decode cL_tellTruth 9 = .ok (.lastore, 1) := by decide +kernel
theorem dL_tellTruth_10 : decode cL_tellTruth 10 = .ok (.goto 15, 3) := by decide +kernel
theorem dL_tellTruth_13 : decode cL_tellTruth 13 = .ok (.astore 4, 2) := by decide +kernel
theorem dL_tellTruth_15 : decode cL_tellTruth 15 = .ok (.iconst 1, 1) := by decide +kernel
theorem dL_tellTruth_16 : decode cL_tellTruth 16 = .ok (.ireturn, 1) := by decide +kernel
theorem dL_tellTruth_17 : decode cL_tellTruth 17 = .ok (.astore 4, 2) := by decide +kernel
theorem dL_tellTruth_19 : decode cL_tellTruth 19 = .ok (.iconst 2, 1) := by decide +kernel
theorem dL_tellTruth_20 : decode cL_tellTruth 20 = .ok (.ireturn, 1) := by decide +kernel
theorem dL_tellTruth_21 : decode cL_tellTruth 21 = .ok (.astore 4, 2) := by decide +kernel
theorem dL_tellTruth_23 : decode cL_tellTruth 23 = .ok (.iconst 3, 1) := by decide +kernel
theorem dL_tellTruth_24 : decode cL_tellTruth 24 = .ok (.ireturn, 1) := by decide +kernel
theorem dL_tellTruth_25 : decode cL_tellTruth 25 = .ok (.iconst 0, 1) := by decide +kernel
theorem dL_tellTruth_26 : decode cL_tellTruth 26 = .ok (.ireturn, 1) := by decide +kernel
theorem dL_grade_0 : decode cL_grade 0 = .ok (.aload_n 2, 1) := by decide +kernel
theorem dL_grade_1 : decode cL_grade 1 = .ok (.iconst 0, 1) := by decide +kernel
theorem dL_grade_2 : decode cL_grade 2 = .ok (.aload_n 0, 1) := by decide +kernel
theorem dL_grade_3 : decode cL_grade 3 = .ok (.iload_n 1, 1) := by decide +kernel
theorem dL_grade_4 : decode cL_grade 4 = .ok (.invokevirtual 28, 3) := by decide +kernel
theorem dL_grade_7 : decode cL_grade 7 = .ok (.i2l, 1) := by decide +kernel
theorem dL_grade_8 : decode cL_grade 8 = .ok (.lastore, 1) := by decide +kernel
theorem dL_grade_9 : decode cL_grade 9 = .ok (.goto 6, 3) := by decide +kernel
theorem dL_grade_12 : decode cL_grade 12 = .ok (.astore_n 3, 1) := by decide +kernel
theorem dL_grade_13 : decode cL_grade 13 = .ok (.iconst 1, 1) := by decide +kernel
theorem dL_grade_14 : decode cL_grade 14 = .ok (.ireturn, 1) := by decide +kernel
theorem dL_grade_15 : decode cL_grade 15 = .ok (.iconst 0, 1) := by decide +kernel
theorem dL_grade_16 : decode cL_grade 16 = .ok (.ireturn, 1) := by decide +kernel
theorem dL_worth_0 : decode cL_worth 0 = .ok (.aload_n 3, 1) := by decide +kernel
theorem dL_worth_1 : decode cL_worth 1 = .ok (.iconst 0, 1) := by decide +kernel
theorem dL_worth_2 : decode cL_worth 2 = .ok (.aload_n 0, 1) := by decide +kernel
theorem dL_worth_3 : decode cL_worth 3 = .ok (.iload_n 1, 1) := by decide +kernel
theorem dL_worth_4 : decode cL_worth 4 = .ok (.iload_n 2, 1) := by decide +kernel
theorem dL_worth_5 : decode cL_worth 5 = .ok (.invokevirtual 32, 3) := by decide +kernel
theorem dL_worth_8 : decode cL_worth 8 = .ok (.i2l, 1) := by decide +kernel
theorem dL_worth_9 : decode cL_worth 9 = .ok (.lastore, 1) := by decide +kernel
theorem dL_worth_10 : decode cL_worth 10 = .ok (.goto 11, 3) := by decide +kernel
theorem dL_worth_13 : decode cL_worth 13 = .ok (.astore 4, 2) := by decide +kernel
theorem dL_worth_15 : decode cL_worth 15 = .ok (.iconst 1, 1) := by decide +kernel
theorem dL_worth_16 : decode cL_worth 16 = .ok (.ireturn, 1) := by decide +kernel
theorem dL_worth_17 : decode cL_worth 17 = .ok (.astore 4, 2) := by decide +kernel
theorem dL_worth_19 : decode cL_worth 19 = .ok (.iconst 2, 1) := by decide +kernel
theorem dL_worth_20 : decode cL_worth 20 = .ok (.ireturn, 1) := by decide +kernel
theorem dL_worth_21 : decode cL_worth 21 = .ok (.iconst 0, 1) := by decide +kernel
theorem dL_worth_22 : decode cL_worth 22 = .ok (.ireturn, 1) := by decide +kernel
theorem dL_isFree_0 : decode cL_isFree 0 = .ok (.aload_n 2, 1) := by decide +kernel
theorem dL_isFree_1 : decode cL_isFree 1 = .ok (.iconst 0, 1) := by decide +kernel
theorem dL_isFree_2 : decode cL_isFree 2 = .ok (.aload_n 0, 1) := by decide +kernel
theorem dL_isFree_3 : decode cL_isFree 3 = .ok (.iload_n 1, 1) := by decide +kernel
theorem dL_isFree_4 : decode cL_isFree 4 = .ok (.invokevirtual 35, 3) := by decide +kernel
theorem dL_isFree_7 : decode cL_isFree 7 = .ok (.ifCond .eq 7, 3) := by decide +kernel
theorem dL_isFree_10 : decode cL_isFree 10 = .ok (.lconst 1, 1) := by decide +kernel
theorem dL_isFree_11 : decode cL_isFree 11 = .ok (.goto 4, 3) := by decide +kernel
theorem dL_isFree_14 : decode cL_isFree 14 = .ok (.lconst 0, 1) := by decide +kernel
theorem dL_isFree_15 : decode cL_isFree 15 = .ok (.lastore, 1) := by decide +kernel
theorem dL_isFree_16 : decode cL_isFree 16 = .ok (.goto 6, 3) := by decide +kernel
theorem dL_isFree_19 : decode cL_isFree 19 = .ok (.astore_n 3, 1) := by decide +kernel
theorem dL_isFree_20 : decode cL_isFree 20 = .ok (.iconst 1, 1) := by decide +kernel
theorem dL_isFree_21 : decode cL_isFree 21 = .ok (.ireturn, 1) := by decide +kernel
theorem dL_isFree_22 : decode cL_isFree 22 = .ok (.iconst 0, 1) := by decide +kernel
theorem dL_isFree_23 : decode cL_isFree 23 = .ok (.ireturn, 1) := by decide +kernel
theorem dL_isDug_0 : decode cL_isDug 0 = .ok (.aload_n 2, 1) := by decide +kernel
theorem dL_isDug_1 : decode cL_isDug 1 = .ok (.iconst 0, 1) := by decide +kernel
theorem dL_isDug_2 : decode cL_isDug 2 = .ok (.aload_n 0, 1) := by decide +kernel
theorem dL_isDug_3 : decode cL_isDug 3 = .ok (.iload_n 1, 1) := by decide +kernel
theorem dL_isDug_4 : decode cL_isDug 4 = .ok (.invokevirtual 39, 3) := by decide +kernel
theorem dL_isDug_7 : decode cL_isDug 7 = .ok (.ifCond .eq 7, 3) := by decide +kernel
theorem dL_isDug_10 : decode cL_isDug 10 = .ok (.lconst 1, 1) := by decide +kernel
theorem dL_isDug_11 : decode cL_isDug 11 = .ok (.goto 4, 3) := by decide +kernel
theorem dL_isDug_14 : decode cL_isDug 14 = .ok (.lconst 0, 1) := by decide +kernel
theorem dL_isDug_15 : decode cL_isDug 15 = .ok (.lastore, 1) := by decide +kernel
theorem dL_isDug_16 : decode cL_isDug 16 = .ok (.goto 6, 3) := by decide +kernel
theorem dL_isDug_19 : decode cL_isDug 19 = .ok (.astore_n 3, 1) := by decide +kernel
theorem dL_isDug_20 : decode cL_isDug 20 = .ok (.iconst 1, 1) := by decide +kernel
theorem dL_isDug_21 : decode cL_isDug 21 = .ok (.ireturn, 1) := by decide +kernel
theorem dL_isDug_22 : decode cL_isDug 22 = .ok (.iconst 0, 1) := by decide +kernel
theorem dL_isDug_23 : decode cL_isDug 23 = .ok (.ireturn, 1) := by decide +kernel
theorem dL_pitWorth_0 : decode cL_pitWorth 0 = .ok (.aload_n 2, 1) := by decide +kernel
theorem dL_pitWorth_1 : decode cL_pitWorth 1 = .ok (.iconst 0, 1) := by decide +kernel
theorem dL_pitWorth_2 : decode cL_pitWorth 2 = .ok (.aload_n 0, 1) := by decide +kernel
theorem dL_pitWorth_3 : decode cL_pitWorth 3 = .ok (.iload_n 1, 1) := by decide +kernel
theorem dL_pitWorth_4 : decode cL_pitWorth 4 = .ok (.invokevirtual 42, 3) := by decide +kernel
theorem dL_pitWorth_7 : decode cL_pitWorth 7 = .ok (.lastore, 1) := by decide +kernel
theorem dL_pitWorth_8 : decode cL_pitWorth 8 = .ok (.goto 6, 3) := by decide +kernel
theorem dL_pitWorth_11 : decode cL_pitWorth 11 = .ok (.astore_n 3, 1) := by decide +kernel
theorem dL_pitWorth_12 : decode cL_pitWorth 12 = .ok (.iconst 1, 1) := by decide +kernel
theorem dL_pitWorth_13 : decode cL_pitWorth 13 = .ok (.ireturn, 1) := by decide +kernel
theorem dL_pitWorth_14 : decode cL_pitWorth 14 = .ok (.iconst 0, 1) := by decide +kernel
theorem dL_pitWorth_15 : decode cL_pitWorth 15 = .ok (.ireturn, 1) := by decide +kernel
theorem dL_pitSize_0 : decode cL_pitSize 0 = .ok (.aload_n 2, 1) := by decide +kernel
theorem dL_pitSize_1 : decode cL_pitSize 1 = .ok (.iconst 0, 1) := by decide +kernel
theorem dL_pitSize_2 : decode cL_pitSize 2 = .ok (.aload_n 0, 1) := by decide +kernel
theorem dL_pitSize_3 : decode cL_pitSize 3 = .ok (.iload_n 1, 1) := by decide +kernel
theorem dL_pitSize_4 : decode cL_pitSize 4 = .ok (.invokevirtual 46, 3) := by decide +kernel
theorem dL_pitSize_7 : decode cL_pitSize 7 = .ok (.i2l, 1) := by decide +kernel
theorem dL_pitSize_8 : decode cL_pitSize 8 = .ok (.lastore, 1) := by decide +kernel
theorem dL_pitSize_9 : decode cL_pitSize 9 = .ok (.goto 6, 3) := by decide +kernel
theorem dL_pitSize_12 : decode cL_pitSize 12 = .ok (.astore_n 3, 1) := by decide +kernel
theorem dL_pitSize_13 : decode cL_pitSize 13 = .ok (.iconst 1, 1) := by decide +kernel
theorem dL_pitSize_14 : decode cL_pitSize 14 = .ok (.ireturn, 1) := by decide +kernel
theorem dL_pitSize_15 : decode cL_pitSize 15 = .ok (.iconst 0, 1) := by decide +kernel
theorem dL_pitSize_16 : decode cL_pitSize 16 = .ok (.ireturn, 1) := by decide +kernel
theorem dL_isInPit_0 : decode cL_isInPit 0 = .ok (.aload_n 3, 1) := by decide +kernel
theorem dL_isInPit_1 : decode cL_isInPit 1 = .ok (.iconst 0, 1) := by decide +kernel
theorem dL_isInPit_2 : decode cL_isInPit 2 = .ok (.aload_n 0, 1) := by decide +kernel
theorem dL_isInPit_3 : decode cL_isInPit 3 = .ok (.iload_n 1, 1) := by decide +kernel
theorem dL_isInPit_4 : decode cL_isInPit 4 = .ok (.iload_n 2, 1) := by decide +kernel
theorem dL_isInPit_5 : decode cL_isInPit 5 = .ok (.invokevirtual 49, 3) := by decide +kernel
theorem dL_isInPit_8 : decode cL_isInPit 8 = .ok (.ifCond .eq 7, 3) := by decide +kernel
theorem dL_isInPit_11 : decode cL_isInPit 11 = .ok (.lconst 1, 1) := by decide +kernel
theorem dL_isInPit_12 : decode cL_isInPit 12 = .ok (.goto 4, 3) := by decide +kernel
theorem dL_isInPit_15 : decode cL_isInPit 15 = .ok (.lconst 0, 1) := by decide +kernel
theorem dL_isInPit_16 : decode cL_isInPit 16 = .ok (.lastore, 1) := by decide +kernel
theorem dL_isInPit_17 : decode cL_isInPit 17 = .ok (.goto 11, 3) := by decide +kernel
theorem dL_isInPit_20 : decode cL_isInPit 20 = .ok (.astore 4, 2) := by decide +kernel
theorem dL_isInPit_22 : decode cL_isInPit 22 = .ok (.iconst 1, 1) := by decide +kernel
theorem dL_isInPit_23 : decode cL_isInPit 23 = .ok (.ireturn, 1) := by decide +kernel
theorem dL_isInPit_24 : decode cL_isInPit 24 = .ok (.astore 4, 2) := by decide +kernel
theorem dL_isInPit_26 : decode cL_isInPit 26 = .ok (.iconst 2, 1) := by decide +kernel
theorem dL_isInPit_27 : decode cL_isInPit 27 = .ok (.ireturn, 1) := by decide +kernel
theorem dL_isInPit_28 : decode cL_isInPit 28 = .ok (.iconst 0, 1) := by decide +kernel
theorem dL_isInPit_29 : decode cL_isInPit 29 = .ok (.ireturn, 1) := by decide +kernel
theorem dL_worthWith_0 : decode cL_worthWith 0 = .ok (.aload_n 3, 1) := by decide +kernel
theorem dL_worthWith_1 : decode cL_worthWith 1 = .ok (.iconst 0, 1) := by decide +kernel
theorem dL_worthWith_2 : decode cL_worthWith 2 = .ok (.aload_n 0, 1) := by decide +kernel
theorem dL_worthWith_3 : decode cL_worthWith 3 = .ok (.iload_n 1, 1) := by decide +kernel
theorem dL_worthWith_4 : decode cL_worthWith 4 = .ok (.iload_n 2, 1) := by decide +kernel
theorem dL_worthWith_5 : decode cL_worthWith 5 = .ok (.invokevirtual 53, 3) := by decide +kernel
theorem dL_worthWith_8 : decode cL_worthWith 8 = .ok (.lastore, 1) := by decide +kernel
theorem dL_worthWith_9 : decode cL_worthWith 9 = .ok (.goto 15, 3) := by decide +kernel
theorem dL_worthWith_12 : decode cL_worthWith 12 = .ok (.astore 4, 2) := by decide +kernel
theorem dL_worthWith_14 : decode cL_worthWith 14 = .ok (.iconst 1, 1) := by decide +kernel
theorem dL_worthWith_15 : decode cL_worthWith 15 = .ok (.ireturn, 1) := by decide +kernel
theorem dL_worthWith_16 : decode cL_worthWith 16 = .ok (.astore 4, 2) := by decide +kernel
theorem dL_worthWith_18 : decode cL_worthWith 18 = .ok (.iconst 2, 1) := by decide +kernel
theorem dL_worthWith_19 : decode cL_worthWith 19 = .ok (.ireturn, 1) := by decide +kernel
theorem dL_worthWith_20 : decode cL_worthWith 20 = .ok (.astore 4, 2) := by decide +kernel
theorem dL_worthWith_22 : decode cL_worthWith 22 = .ok (.iconst 3, 1) := by decide +kernel
theorem dL_worthWith_23 : decode cL_worthWith 23 = .ok (.ireturn, 1) := by decide +kernel
theorem dL_worthWith_24 : decode cL_worthWith 24 = .ok (.iconst 0, 1) := by decide +kernel
theorem dL_worthWith_25 : decode cL_worthWith 25 = .ok (.ireturn, 1) := by decide +kernel
theorem dL_phase_0 : decode cL_phase 0 = .ok (.aload_n 2, 1) := by decide +kernel
theorem dL_phase_1 : decode cL_phase 1 = .ok (.iconst 0, 1) := by decide +kernel
theorem dL_phase_2 : decode cL_phase 2 = .ok (.aload_n 0, 1) := by decide +kernel
theorem dL_phase_3 : decode cL_phase 3 = .ok (.iload_n 1, 1) := by decide +kernel
theorem dL_phase_4 : decode cL_phase 4 = .ok (.invokevirtual 57, 3) := by decide +kernel
theorem dL_phase_7 : decode cL_phase 7 = .ok (.i2l, 1) := by decide +kernel
theorem dL_phase_8 : decode cL_phase 8 = .ok (.lastore, 1) := by decide +kernel
theorem dL_phase_9 : decode cL_phase 9 = .ok (.goto 9, 3) := by decide +kernel
theorem dL_phase_12 : decode cL_phase 12 = .ok (.astore_n 3, 1) := by decide +kernel
theorem dL_phase_13 : decode cL_phase 13 = .ok (.iconst 1, 1) := by decide +kernel
theorem dL_phase_14 : decode cL_phase 14 = .ok (.ireturn, 1) := by decide +kernel
theorem dL_phase_15 : decode cL_phase 15 = .ok (.astore_n 3, 1) := by decide +kernel
theorem dL_phase_16 : decode cL_phase 16 = .ok (.iconst 2, 1) := by decide +kernel
theorem dL_phase_17 : decode cL_phase 17 = .ok (.ireturn, 1) := by decide +kernel
theorem dL_phase_18 : decode cL_phase 18 = .ok (.iconst 0, 1) := by decide +kernel
theorem dL_phase_19 : decode cL_phase 19 = .ok (.ireturn, 1) := by decide +kernel
theorem dL_phaseOf_0 : decode cL_phaseOf 0 = .ok (.aload_n 2, 1) := by decide +kernel
theorem dL_phaseOf_1 : decode cL_phaseOf 1 = .ok (.iconst 0, 1) := by decide +kernel
theorem dL_phaseOf_2 : decode cL_phaseOf 2 = .ok (.aload_n 0, 1) := by decide +kernel
theorem dL_phaseOf_3 : decode cL_phaseOf 3 = .ok (.iload_n 1, 1) := by decide +kernel
theorem dL_phaseOf_4 : decode cL_phaseOf 4 = .ok (.invokevirtual 60, 3) := by decide +kernel
theorem dL_phaseOf_7 : decode cL_phaseOf 7 = .ok (.i2l, 1) := by decide +kernel
theorem dL_phaseOf_8 : decode cL_phaseOf 8 = .ok (.lastore, 1) := by decide +kernel
theorem dL_phaseOf_9 : decode cL_phaseOf 9 = .ok (.goto 6, 3) := by decide +kernel
theorem dL_phaseOf_12 : decode cL_phaseOf 12 = .ok (.astore_n 3, 1) := by decide +kernel
theorem dL_phaseOf_13 : decode cL_phaseOf 13 = .ok (.iconst 1, 1) := by decide +kernel
theorem dL_phaseOf_14 : decode cL_phaseOf 14 = .ok (.ireturn, 1) := by decide +kernel
theorem dL_phaseOf_15 : decode cL_phaseOf 15 = .ok (.iconst 0, 1) := by decide +kernel
theorem dL_phaseOf_16 : decode cL_phaseOf 16 = .ok (.ireturn, 1) := by decide +kernel
theorem dL_set_0 : decode cL_set 0 = .ok (.aload_n 3, 1) := by decide +kernel
theorem dL_set_1 : decode cL_set 1 = .ok (.iconst 0, 1) := by decide +kernel
theorem dL_set_2 : decode cL_set 2 = .ok (.aload_n 0, 1) := by decide +kernel
theorem dL_set_3 : decode cL_set 3 = .ok (.iload_n 1, 1) := by decide +kernel
theorem dL_set_4 : decode cL_set 4 = .ok (.iload_n 2, 1) := by decide +kernel
theorem dL_set_5 : decode cL_set 5 = .ok (.invokevirtual 63, 3) := by decide +kernel
theorem dL_set_8 : decode cL_set 8 = .ok (.i2l, 1) := by decide +kernel
theorem dL_set_9 : decode cL_set 9 = .ok (.lastore, 1) := by decide +kernel
theorem dL_set_10 : decode cL_set 10 = .ok (.goto 7, 3) := by decide +kernel
theorem dL_set_13 : decode cL_set 13 = .ok (.astore 4, 2) := by decide +kernel
theorem dL_set_15 : decode cL_set 15 = .ok (.iconst 1, 1) := by decide +kernel
theorem dL_set_16 : decode cL_set 16 = .ok (.ireturn, 1) := by decide +kernel
theorem dL_set_17 : decode cL_set 17 = .ok (.iconst 0, 1) := by decide +kernel
theorem dL_set_18 : decode cL_set 18 = .ok (.ireturn, 1) := by decide +kernel
theorem dL_goOn_0 : decode cL_goOn 0 = .ok (.aload_n 2, 1) := by decide +kernel
theorem dL_goOn_1 : decode cL_goOn 1 = .ok (.iconst 0, 1) := by decide +kernel
theorem dL_goOn_2 : decode cL_goOn 2 = .ok (.aload_n 0, 1) := by decide +kernel
theorem dL_goOn_3 : decode cL_goOn 3 = .ok (.iload_n 1, 1) := by decide +kernel
theorem dL_goOn_4 : decode cL_goOn 4 = .ok (.invokevirtual 67, 3) := by decide +kernel
theorem dL_goOn_7 : decode cL_goOn 7 = .ok (.i2l, 1) := by decide +kernel
theorem dL_goOn_8 : decode cL_goOn 8 = .ok (.lastore, 1) := by decide +kernel
theorem dL_goOn_9 : decode cL_goOn 9 = .ok (.goto 6, 3) := by decide +kernel
theorem dL_goOn_12 : decode cL_goOn 12 = .ok (.astore_n 3, 1) := by decide +kernel
theorem dL_goOn_13 : decode cL_goOn 13 = .ok (.iconst 1, 1) := by decide +kernel
theorem dL_goOn_14 : decode cL_goOn 14 = .ok (.ireturn, 1) := by decide +kernel
theorem dL_goOn_15 : decode cL_goOn 15 = .ok (.iconst 0, 1) := by decide +kernel
theorem dL_goOn_16 : decode cL_goOn 16 = .ok (.ireturn, 1) := by decide +kernel
theorem dL_wentTo_0 : decode cL_wentTo 0 = .ok (.aload_n 2, 1) := by decide +kernel
theorem dL_wentTo_1 : decode cL_wentTo 1 = .ok (.iconst 0, 1) := by decide +kernel
theorem dL_wentTo_2 : decode cL_wentTo 2 = .ok (.aload_n 0, 1) := by decide +kernel
theorem dL_wentTo_3 : decode cL_wentTo 3 = .ok (.iload_n 1, 1) := by decide +kernel
theorem dL_wentTo_4 : decode cL_wentTo 4 = .ok (.invokevirtual 70, 3) := by decide +kernel
theorem dL_wentTo_7 : decode cL_wentTo 7 = .ok (.i2l, 1) := by decide +kernel
theorem dL_wentTo_8 : decode cL_wentTo 8 = .ok (.lastore, 1) := by decide +kernel
theorem dL_wentTo_9 : decode cL_wentTo 9 = .ok (.goto 9, 3) := by decide +kernel
theorem dL_wentTo_12 : decode cL_wentTo 12 = .ok (.astore_n 3, 1) := by decide +kernel
theorem dL_wentTo_13 : decode cL_wentTo 13 = .ok (.iconst 1, 1) := by decide +kernel
theorem dL_wentTo_14 : decode cL_wentTo 14 = .ok (.ireturn, 1) := by decide +kernel
theorem dL_wentTo_15 : decode cL_wentTo 15 = .ok (.astore_n 3, 1) := by decide +kernel
theorem dL_wentTo_16 : decode cL_wentTo 16 = .ok (.iconst 2, 1) := by decide +kernel
theorem dL_wentTo_17 : decode cL_wentTo 17 = .ok (.ireturn, 1) := by decide +kernel
theorem dL_wentTo_18 : decode cL_wentTo 18 = .ok (.iconst 0, 1) := by decide +kernel
theorem dL_wentTo_19 : decode cL_wentTo 19 = .ok (.ireturn, 1) := by decide +kernel
theorem dL_dugIn_0 : decode cL_dugIn 0 = .ok (.aload_n 2, 1) := by decide +kernel
theorem dL_dugIn_1 : decode cL_dugIn 1 = .ok (.iconst 0, 1) := by decide +kernel
theorem dL_dugIn_2 : decode cL_dugIn 2 = .ok (.aload_n 0, 1) := by decide +kernel
theorem dL_dugIn_3 : decode cL_dugIn 3 = .ok (.iload_n 1, 1) := by decide +kernel
theorem dL_dugIn_4 : decode cL_dugIn 4 = .ok (.invokevirtual 76, 3) := by decide +kernel
theorem dL_dugIn_7 : decode cL_dugIn 7 = .ok (.i2l, 1) := by decide +kernel
theorem dL_dugIn_8 : decode cL_dugIn 8 = .ok (.lastore, 1) := by decide +kernel
theorem dL_dugIn_9 : decode cL_dugIn 9 = .ok (.goto 9, 3) := by decide +kernel
theorem dL_dugIn_12 : decode cL_dugIn 12 = .ok (.astore_n 3, 1) := by decide +kernel
theorem dL_dugIn_13 : decode cL_dugIn 13 = .ok (.iconst 1, 1) := by decide +kernel
theorem dL_dugIn_14 : decode cL_dugIn 14 = .ok (.ireturn, 1) := by decide +kernel
theorem dL_dugIn_15 : decode cL_dugIn 15 = .ok (.astore_n 3, 1) := by decide +kernel
theorem dL_dugIn_16 : decode cL_dugIn 16 = .ok (.iconst 2, 1) := by decide +kernel
theorem dL_dugIn_17 : decode cL_dugIn 17 = .ok (.ireturn, 1) := by decide +kernel
theorem dL_dugIn_18 : decode cL_dugIn 18 = .ok (.iconst 0, 1) := by decide +kernel
theorem dL_dugIn_19 : decode cL_dugIn 19 = .ok (.ireturn, 1) := by decide +kernel
theorem dL_recovery_0 : decode cL_recovery 0 = .ok (.aload_n 1, 1) := by decide +kernel
theorem dL_recovery_1 : decode cL_recovery 1 = .ok (.iconst 0, 1) := by decide +kernel
theorem dL_recovery_2 : decode cL_recovery 2 = .ok (.aload_n 0, 1) := by decide +kernel
theorem dL_recovery_3 : decode cL_recovery 3 = .ok (.invokevirtual 79, 3) := by decide +kernel
theorem dL_recovery_6 : decode cL_recovery 6 = .ok (.i2l, 1) := by decide +kernel
theorem dL_recovery_7 : decode cL_recovery 7 = .ok (.lastore, 1) := by decide +kernel
theorem dL_recovery_8 : decode cL_recovery 8 = .ok (.goto 6, 3) := by decide +kernel
theorem dL_recovery_11 : decode cL_recovery 11 = .ok (.astore_n 2, 1) := by decide +kernel
theorem dL_recovery_12 : decode cL_recovery 12 = .ok (.iconst 1, 1) := by decide +kernel
theorem dL_recovery_13 : decode cL_recovery 13 = .ok (.ireturn, 1) := by decide +kernel
theorem dL_recovery_14 : decode cL_recovery 14 = .ok (.iconst 0, 1) := by decide +kernel
theorem dL_recovery_15 : decode cL_recovery 15 = .ok (.ireturn, 1) := by decide +kernel
theorem dL_tons_0 : decode cL_tons 0 = .ok (.aload_n 2, 1) := by decide +kernel
theorem dL_tons_1 : decode cL_tons 1 = .ok (.iconst 0, 1) := by decide +kernel
theorem dL_tons_2 : decode cL_tons 2 = .ok (.aload_n 0, 1) := by decide +kernel
theorem dL_tons_3 : decode cL_tons 3 = .ok (.iload_n 1, 1) := by decide +kernel
theorem dL_tons_4 : decode cL_tons 4 = .ok (.invokevirtual 83, 3) := by decide +kernel
theorem dL_tons_7 : decode cL_tons 7 = .ok (.i2l, 1) := by decide +kernel
theorem dL_tons_8 : decode cL_tons 8 = .ok (.lastore, 1) := by decide +kernel
theorem dL_tons_9 : decode cL_tons 9 = .ok (.goto 6, 3) := by decide +kernel
theorem dL_tons_12 : decode cL_tons 12 = .ok (.astore_n 3, 1) := by decide +kernel
theorem dL_tons_13 : decode cL_tons 13 = .ok (.iconst 1, 1) := by decide +kernel
theorem dL_tons_14 : decode cL_tons 14 = .ok (.ireturn, 1) := by decide +kernel
theorem dL_tons_15 : decode cL_tons 15 = .ok (.iconst 0, 1) := by decide +kernel
theorem dL_tons_16 : decode cL_tons 16 = .ok (.ireturn, 1) := by decide +kernel
theorem dL_factor_0 : decode cL_factor 0 = .ok (.aload_n 1, 1) := by decide +kernel
theorem dL_factor_1 : decode cL_factor 1 = .ok (.iconst 0, 1) := by decide +kernel
theorem dL_factor_2 : decode cL_factor 2 = .ok (.aload_n 0, 1) := by decide +kernel
theorem dL_factor_3 : decode cL_factor 3 = .ok (.invokevirtual 87, 3) := by decide +kernel
theorem dL_factor_6 : decode cL_factor 6 = .ok (.i2l, 1) := by decide +kernel
theorem dL_factor_7 : decode cL_factor 7 = .ok (.lastore, 1) := by decide +kernel
theorem dL_factor_8 : decode cL_factor 8 = .ok (.goto 6, 3) := by decide +kernel
theorem dL_factor_11 : decode cL_factor 11 = .ok (.astore_n 2, 1) := by decide +kernel
theorem dL_factor_12 : decode cL_factor 12 = .ok (.iconst 1, 1) := by decide +kernel
theorem dL_factor_13 : decode cL_factor 13 = .ok (.ireturn, 1) := by decide +kernel
theorem dL_factor_14 : decode cL_factor 14 = .ok (.iconst 0, 1) := by decide +kernel
theorem dL_factor_15 : decode cL_factor 15 = .ok (.ireturn, 1) := by decide +kernel
theorem dL_meanFed_0 : decode cL_meanFed 0 = .ok (.aload_n 1, 1) := by decide +kernel
theorem dL_meanFed_1 : decode cL_meanFed 1 = .ok (.iconst 0, 1) := by decide +kernel
theorem dL_meanFed_2 : decode cL_meanFed 2 = .ok (.aload_n 0, 1) := by decide +kernel
theorem dL_meanFed_3 : decode cL_meanFed 3 = .ok (.invokevirtual 92, 3) := by decide +kernel
theorem dL_meanFed_6 : decode cL_meanFed 6 = .ok (.dastore, 1) := by decide +kernel
theorem dL_meanFed_7 : decode cL_meanFed 7 = .ok (.goto 6, 3) := by decide +kernel
theorem dL_meanFed_10 : decode cL_meanFed 10 = .ok (.astore_n 2, 1) := by decide +kernel
theorem dL_meanFed_11 : decode cL_meanFed 11 = .ok (.iconst 1, 1) := by decide +kernel
theorem dL_meanFed_12 : decode cL_meanFed 12 = .ok (.ireturn, 1) := by decide +kernel
theorem dL_meanFed_13 : decode cL_meanFed 13 = .ok (.iconst 0, 1) := by decide +kernel
theorem dL_meanFed_14 : decode cL_meanFed 14 = .ok (.ireturn, 1) := by decide +kernel
theorem dL_law_0 : decode cL_law 0 = .ok (.new 8, 3) := by decide +kernel
theorem dL_law_3 : decode cL_law 3 = .ok (.dup, 1) := by decide +kernel
theorem dL_law_4 : decode cL_law 4 = .ok (.invokespecial 96, 3) := by decide +kernel
theorem dL_law_7 : decode cL_law 7 = .ok (.astore_n 1, 1) := by decide +kernel
theorem dL_law_8 : decode cL_law 8 = .ok (.new 97, 3) := by decide +kernel
theorem dL_law_11 : decode cL_law 11 = .ok (.dup, 1) := by decide +kernel
theorem dL_law_12 : decode cL_law 12 = .ok (.invokespecial 99, 3) := by decide +kernel
theorem dL_law_15 : decode cL_law 15 = .ok (.astore_n 2, 1) := by decide +kernel
theorem dL_law_16 : decode cL_law 16 = .ok (.iconst 1, 1) := by decide +kernel
theorem dL_law_17 : decode cL_law 17 = .ok (.newarray .long, 2) := by decide +kernel
theorem dL_law_19 : decode cL_law 19 = .ok (.astore_n 3, 1) := by decide +kernel
theorem dL_law_20 : decode cL_law 20 = .ok (.iconst 1, 1) := by decide +kernel
theorem dL_law_21 : decode cL_law 21 = .ok (.newarray .double, 2) := by decide +kernel
theorem dL_law_23 : decode cL_law 23 = .ok (.astore 4, 2) := by decide +kernel
theorem dL_law_25 : decode cL_law 25 = .ok (.iconst 0, 1) := by decide +kernel
theorem dL_law_26 : decode cL_law 26 = .ok (.istore 5, 2) := by decide +kernel
theorem dL_law_28 : decode cL_law 28 = .ok (.iload 5, 2) := by decide +kernel
theorem dL_law_30 : decode cL_law 30 = .ok (.aload_n 0, 1) := by decide +kernel
theorem dL_law_31 : decode cL_law 31 = .ok (.arraylength, 1) := by decide +kernel
theorem dL_law_32 : decode cL_law 32 = .ok (.iconst 3, 1) := by decide +kernel
theorem dL_law_33 : decode cL_law 33 = .ok (.isub, 1) := by decide +kernel
theorem dL_law_34 : decode cL_law 34 = .ok (.if_icmp .gt 1616, 3) := by decide +kernel
theorem dL_law_37 : decode cL_law 37 = .ok (.aload_n 0, 1) := by decide +kernel
theorem dL_law_38 : decode cL_law 38 = .ok (.iload 5, 2) := by decide +kernel
theorem dL_law_40 : decode cL_law 40 = .ok (.iaload, 1) := by decide +kernel
theorem dL_law_41 : decode cL_law 41 = .ok (.bipush 31, 2) := by decide +kernel
theorem dL_law_43 : decode cL_law 43 = .ok (.iand, 1) := by decide +kernel
theorem dL_law_44 : decode cL_law 44 = .ok (.tableswitch 1600 0 30 #[140, 210, 278, 346, 402, 470, 533, 596, 651, 707, 782, 849, 905, 918, 974, 1044, 1085, 1141, 1154, 1210, 1266, 1279, 1292, 1305, 1349, 1363, 1377, 1435, 1479, 1492, 1535], 140) := by decide +kernel
theorem dL_law_184 : decode cL_law 184 = .ok (.aload_n 1, 1) := by decide +kernel
theorem dL_law_185 : decode cL_law 185 = .ok (.aload_n 0, 1) := by decide +kernel
theorem dL_law_186 : decode cL_law 186 = .ok (.iload 5, 2) := by decide +kernel
theorem dL_law_188 : decode cL_law 188 = .ok (.iconst 1, 1) := by decide +kernel
theorem dL_law_189 : decode cL_law 189 = .ok (.iadd, 1) := by decide +kernel
theorem dL_law_190 : decode cL_law 190 = .ok (.iaload, 1) := by decide +kernel
theorem dL_law_191 : decode cL_law 191 = .ok (.aload_n 0, 1) := by decide +kernel
theorem dL_law_192 : decode cL_law 192 = .ok (.iload 5, 2) := by decide +kernel
theorem dL_law_194 : decode cL_law 194 = .ok (.iconst 2, 1) := by decide +kernel
theorem dL_law_195 : decode cL_law 195 = .ok (.iadd, 1) := by decide +kernel
theorem dL_law_196 : decode cL_law 196 = .ok (.iaload, 1) := by decide +kernel
theorem dL_law_197 : decode cL_law 197 = .ok (.i2c, 1) := by decide +kernel
theorem dL_law_198 : decode cL_law 198 = .ok (.aload_n 3, 1) := by decide +kernel
theorem dL_law_199 : decode cL_law 199 = .ok (.invokestatic 100, 3) := by decide +kernel
theorem dL_law_202 : decode cL_law 202 = .ok (.istore 6, 2) := by decide +kernel
theorem dL_law_204 : decode cL_law 204 = .ok (.aload_n 2, 1) := by decide +kernel
theorem dL_law_205 : decode cL_law 205 = .ok (.aload_n 0, 1) := by decide +kernel
theorem dL_law_206 : decode cL_law 206 = .ok (.iload 5, 2) := by decide +kernel
theorem dL_law_208 : decode cL_law 208 = .ok (.iconst 1, 1) := by decide +kernel
theorem dL_law_209 : decode cL_law 209 = .ok (.iadd, 1) := by decide +kernel
theorem dL_law_210 : decode cL_law 210 = .ok (.iaload, 1) := by decide +kernel
theorem dL_law_211 : decode cL_law 211 = .ok (.aload_n 0, 1) := by decide +kernel
theorem dL_law_212 : decode cL_law 212 = .ok (.iload 5, 2) := by decide +kernel
theorem dL_law_214 : decode cL_law 214 = .ok (.iconst 2, 1) := by decide +kernel
theorem dL_law_215 : decode cL_law 215 = .ok (.iadd, 1) := by decide +kernel
theorem dL_law_216 : decode cL_law 216 = .ok (.iaload, 1) := by decide +kernel
theorem dL_law_217 : decode cL_law 217 = .ok (.i2c, 1) := by decide +kernel
theorem dL_law_218 : decode cL_law 218 = .ok (.invokevirtual 105, 3) := by decide +kernel
theorem dL_law_221 : decode cL_law 221 = .ok (.istore 7, 2) := by decide +kernel
theorem dL_law_223 : decode cL_law 223 = .ok (.aload_n 2, 1) := by decide +kernel
theorem dL_law_224 : decode cL_law 224 = .ok (.invokevirtual 106, 3) := by decide +kernel
theorem dL_law_227 : decode cL_law 227 = .ok (.iload 6, 2) := by decide +kernel
theorem dL_law_229 : decode cL_law 229 = .ok (.if_icmp .eq 5, 3) := by decide +kernel
theorem dL_law_232 : decode cL_law 232 = .ok (.iconst 0, 1) := by decide +kernel
theorem dL_law_233 : decode cL_law 233 = .ok (.ireturn, 1) := by decide +kernel
theorem dL_law_234 : decode cL_law 234 = .ok (.iload 6, 2) := by decide +kernel
theorem dL_law_236 : decode cL_law 236 = .ok (.ifCond .ne 15, 3) := by decide +kernel
theorem dL_law_239 : decode cL_law 239 = .ok (.aload_n 3, 1) := by decide +kernel
theorem dL_law_240 : decode cL_law 240 = .ok (.iconst 0, 1) := by decide +kernel
theorem dL_law_241 : decode cL_law 241 = .ok (.laload, 1) := by decide +kernel
theorem dL_law_242 : decode cL_law 242 = .ok (.iload 7, 2) := by decide +kernel
theorem dL_law_244 : decode cL_law 244 = .ok (.i2l, 1) := by decide +kernel
theorem dL_law_245 : decode cL_law 245 = .ok (.lcmp, 1) := by decide +kernel
theorem dL_law_246 : decode cL_law 246 = .ok (.ifCond .eq 5, 3) := by decide +kernel
theorem dL_law_249 : decode cL_law 249 = .ok (.iconst 0, 1) := by decide +kernel
theorem dL_law_250 : decode cL_law 250 = .ok (.ireturn, 1) := by decide +kernel
theorem dL_law_251 : decode cL_law 251 = .ok (.goto 1393, 3) := by decide +kernel
theorem dL_law_254 : decode cL_law 254 = .ok (.aload_n 1, 1) := by decide +kernel
theorem dL_law_255 : decode cL_law 255 = .ok (.aload_n 0, 1) := by decide +kernel
theorem dL_law_256 : decode cL_law 256 = .ok (.iload 5, 2) := by decide +kernel
theorem dL_law_258 : decode cL_law 258 = .ok (.iconst 1, 1) := by decide +kernel
theorem dL_law_259 : decode cL_law 259 = .ok (.iadd, 1) := by decide +kernel
theorem dL_law_260 : decode cL_law 260 = .ok (.iaload, 1) := by decide +kernel
theorem dL_law_261 : decode cL_law 261 = .ok (.aload_n 0, 1) := by decide +kernel
theorem dL_law_262 : decode cL_law 262 = .ok (.iload 5, 2) := by decide +kernel
theorem dL_law_264 : decode cL_law 264 = .ok (.iconst 2, 1) := by decide +kernel
theorem dL_law_265 : decode cL_law 265 = .ok (.iadd, 1) := by decide +kernel
theorem dL_law_266 : decode cL_law 266 = .ok (.iaload, 1) := by decide +kernel
theorem dL_law_267 : decode cL_law 267 = .ok (.aload_n 3, 1) := by decide +kernel
theorem dL_law_268 : decode cL_law 268 = .ok (.invokestatic 109, 3) := by decide +kernel
theorem dL_law_271 : decode cL_law 271 = .ok (.istore 6, 2) := by decide +kernel
theorem dL_law_273 : decode cL_law 273 = .ok (.aload_n 2, 1) := by decide +kernel
theorem dL_law_274 : decode cL_law 274 = .ok (.aload_n 0, 1) := by decide +kernel
theorem dL_law_275 : decode cL_law 275 = .ok (.iload 5, 2) := by decide +kernel
theorem dL_law_277 : decode cL_law 277 = .ok (.iconst 1, 1) := by decide +kernel
theorem dL_law_278 : decode cL_law 278 = .ok (.iadd, 1) := by decide +kernel
theorem dL_law_279 : decode cL_law 279 = .ok (.iaload, 1) := by decide +kernel
theorem dL_law_280 : decode cL_law 280 = .ok (.aload_n 0, 1) := by decide +kernel
theorem dL_law_281 : decode cL_law 281 = .ok (.iload 5, 2) := by decide +kernel
theorem dL_law_283 : decode cL_law 283 = .ok (.iconst 2, 1) := by decide +kernel
theorem dL_law_284 : decode cL_law 284 = .ok (.iadd, 1) := by decide +kernel
theorem dL_law_285 : decode cL_law 285 = .ok (.iaload, 1) := by decide +kernel
theorem dL_law_286 : decode cL_law 286 = .ok (.invokevirtual 112, 3) := by decide +kernel
theorem dL_law_289 : decode cL_law 289 = .ok (.istore 7, 2) := by decide +kernel
theorem dL_law_291 : decode cL_law 291 = .ok (.aload_n 2, 1) := by decide +kernel
theorem dL_law_292 : decode cL_law 292 = .ok (.invokevirtual 106, 3) := by decide +kernel
theorem dL_law_295 : decode cL_law 295 = .ok (.iload 6, 2) := by decide +kernel
theorem dL_law_297 : decode cL_law 297 = .ok (.if_icmp .eq 5, 3) := by decide +kernel
theorem dL_law_300 : decode cL_law 300 = .ok (.iconst 0, 1) := by decide +kernel
theorem dL_law_301 : decode cL_law 301 = .ok (.ireturn, 1) := by decide +kernel
theorem dL_law_302 : decode cL_law 302 = .ok (.iload 6, 2) := by decide +kernel
theorem dL_law_304 : decode cL_law 304 = .ok (.ifCond .ne 15, 3) := by decide +kernel
theorem dL_law_307 : decode cL_law 307 = .ok (.aload_n 3, 1) := by decide +kernel
theorem dL_law_308 : decode cL_law 308 = .ok (.iconst 0, 1) := by decide +kernel
theorem dL_law_309 : decode cL_law 309 = .ok (.laload, 1) := by decide +kernel
theorem dL_law_310 : decode cL_law 310 = .ok (.iload 7, 2) := by decide +kernel
theorem dL_law_312 : decode cL_law 312 = .ok (.i2l, 1) := by decide +kernel
theorem dL_law_313 : decode cL_law 313 = .ok (.lcmp, 1) := by decide +kernel
theorem dL_law_314 : decode cL_law 314 = .ok (.ifCond .eq 5, 3) := by decide +kernel
theorem dL_law_317 : decode cL_law 317 = .ok (.iconst 0, 1) := by decide +kernel
theorem dL_law_318 : decode cL_law 318 = .ok (.ireturn, 1) := by decide +kernel
theorem dL_law_319 : decode cL_law 319 = .ok (.goto 1325, 3) := by decide +kernel
theorem dL_law_322 : decode cL_law 322 = .ok (.aload_n 1, 1) := by decide +kernel
theorem dL_law_323 : decode cL_law 323 = .ok (.aload_n 0, 1) := by decide +kernel
theorem dL_law_324 : decode cL_law 324 = .ok (.iload 5, 2) := by decide +kernel
theorem dL_law_326 : decode cL_law 326 = .ok (.iconst 1, 1) := by decide +kernel
theorem dL_law_327 : decode cL_law 327 = .ok (.iadd, 1) := by decide +kernel
theorem dL_law_328 : decode cL_law 328 = .ok (.iaload, 1) := by decide +kernel
theorem dL_law_329 : decode cL_law 329 = .ok (.aload_n 0, 1) := by decide +kernel
theorem dL_law_330 : decode cL_law 330 = .ok (.iload 5, 2) := by decide +kernel
theorem dL_law_332 : decode cL_law 332 = .ok (.iconst 2, 1) := by decide +kernel
theorem dL_law_333 : decode cL_law 333 = .ok (.iadd, 1) := by decide +kernel
theorem dL_law_334 : decode cL_law 334 = .ok (.iaload, 1) := by decide +kernel
theorem dL_law_335 : decode cL_law 335 = .ok (.aload_n 3, 1) := by decide +kernel
theorem dL_law_336 : decode cL_law 336 = .ok (.invokestatic 113, 3) := by decide +kernel
theorem dL_law_339 : decode cL_law 339 = .ok (.istore 6, 2) := by decide +kernel
theorem dL_law_341 : decode cL_law 341 = .ok (.aload_n 2, 1) := by decide +kernel
theorem dL_law_342 : decode cL_law 342 = .ok (.aload_n 0, 1) := by decide +kernel
theorem dL_law_343 : decode cL_law 343 = .ok (.iload 5, 2) := by decide +kernel
theorem dL_law_345 : decode cL_law 345 = .ok (.iconst 1, 1) := by decide +kernel
theorem dL_law_346 : decode cL_law 346 = .ok (.iadd, 1) := by decide +kernel
theorem dL_law_347 : decode cL_law 347 = .ok (.iaload, 1) := by decide +kernel
theorem dL_law_348 : decode cL_law 348 = .ok (.aload_n 0, 1) := by decide +kernel
theorem dL_law_349 : decode cL_law 349 = .ok (.iload 5, 2) := by decide +kernel
theorem dL_law_351 : decode cL_law 351 = .ok (.iconst 2, 1) := by decide +kernel
theorem dL_law_352 : decode cL_law 352 = .ok (.iadd, 1) := by decide +kernel
theorem dL_law_353 : decode cL_law 353 = .ok (.iaload, 1) := by decide +kernel
theorem dL_law_354 : decode cL_law 354 = .ok (.invokevirtual 115, 3) := by decide +kernel
theorem dL_law_357 : decode cL_law 357 = .ok (.istore 7, 2) := by decide +kernel
theorem dL_law_359 : decode cL_law 359 = .ok (.aload_n 2, 1) := by decide +kernel
theorem dL_law_360 : decode cL_law 360 = .ok (.invokevirtual 106, 3) := by decide +kernel
theorem dL_law_363 : decode cL_law 363 = .ok (.iload 6, 2) := by decide +kernel
theorem dL_law_365 : decode cL_law 365 = .ok (.if_icmp .eq 5, 3) := by decide +kernel
theorem dL_law_368 : decode cL_law 368 = .ok (.iconst 0, 1) := by decide +kernel
theorem dL_law_369 : decode cL_law 369 = .ok (.ireturn, 1) := by decide +kernel
theorem dL_law_370 : decode cL_law 370 = .ok (.iload 6, 2) := by decide +kernel
theorem dL_law_372 : decode cL_law 372 = .ok (.ifCond .ne 15, 3) := by decide +kernel
theorem dL_law_375 : decode cL_law 375 = .ok (.aload_n 3, 1) := by decide +kernel
theorem dL_law_376 : decode cL_law 376 = .ok (.iconst 0, 1) := by decide +kernel
theorem dL_law_377 : decode cL_law 377 = .ok (.laload, 1) := by decide +kernel
theorem dL_law_378 : decode cL_law 378 = .ok (.iload 7, 2) := by decide +kernel
theorem dL_law_380 : decode cL_law 380 = .ok (.i2l, 1) := by decide +kernel
theorem dL_law_381 : decode cL_law 381 = .ok (.lcmp, 1) := by decide +kernel
theorem dL_law_382 : decode cL_law 382 = .ok (.ifCond .eq 5, 3) := by decide +kernel
theorem dL_law_385 : decode cL_law 385 = .ok (.iconst 0, 1) := by decide +kernel
theorem dL_law_386 : decode cL_law 386 = .ok (.ireturn, 1) := by decide +kernel
theorem dL_law_387 : decode cL_law 387 = .ok (.goto 1257, 3) := by decide +kernel
theorem dL_law_390 : decode cL_law 390 = .ok (.aload_n 1, 1) := by decide +kernel
theorem dL_law_391 : decode cL_law 391 = .ok (.aload_n 0, 1) := by decide +kernel
theorem dL_law_392 : decode cL_law 392 = .ok (.iload 5, 2) := by decide +kernel
theorem dL_law_394 : decode cL_law 394 = .ok (.iconst 1, 1) := by decide +kernel
theorem dL_law_395 : decode cL_law 395 = .ok (.iadd, 1) := by decide +kernel
theorem dL_law_396 : decode cL_law 396 = .ok (.iaload, 1) := by decide +kernel
theorem dL_law_397 : decode cL_law 397 = .ok (.aload_n 3, 1) := by decide +kernel
theorem dL_law_398 : decode cL_law 398 = .ok (.invokestatic 116, 3) := by decide +kernel
theorem dL_law_401 : decode cL_law 401 = .ok (.istore 6, 2) := by decide +kernel
theorem dL_law_403 : decode cL_law 403 = .ok (.aload_n 2, 1) := by decide +kernel
theorem dL_law_404 : decode cL_law 404 = .ok (.aload_n 0, 1) := by decide +kernel
theorem dL_law_405 : decode cL_law 405 = .ok (.iload 5, 2) := by decide +kernel
theorem dL_law_407 : decode cL_law 407 = .ok (.iconst 1, 1) := by decide +kernel
theorem dL_law_408 : decode cL_law 408 = .ok (.iadd, 1) := by decide +kernel
theorem dL_law_409 : decode cL_law 409 = .ok (.iaload, 1) := by decide +kernel
theorem dL_law_410 : decode cL_law 410 = .ok (.invokevirtual 119, 3) := by decide +kernel
theorem dL_law_413 : decode cL_law 413 = .ok (.istore 7, 2) := by decide +kernel
theorem dL_law_415 : decode cL_law 415 = .ok (.aload_n 2, 1) := by decide +kernel
theorem dL_law_416 : decode cL_law 416 = .ok (.invokevirtual 106, 3) := by decide +kernel
theorem dL_law_419 : decode cL_law 419 = .ok (.iload 6, 2) := by decide +kernel
theorem dL_law_421 : decode cL_law 421 = .ok (.if_icmp .eq 5, 3) := by decide +kernel
theorem dL_law_424 : decode cL_law 424 = .ok (.iconst 0, 1) := by decide +kernel
theorem dL_law_425 : decode cL_law 425 = .ok (.ireturn, 1) := by decide +kernel
theorem dL_law_426 : decode cL_law 426 = .ok (.iload 6, 2) := by decide +kernel
theorem dL_law_428 : decode cL_law 428 = .ok (.ifCond .ne 15, 3) := by decide +kernel
theorem dL_law_431 : decode cL_law 431 = .ok (.aload_n 3, 1) := by decide +kernel
theorem dL_law_432 : decode cL_law 432 = .ok (.iconst 0, 1) := by decide +kernel
theorem dL_law_433 : decode cL_law 433 = .ok (.laload, 1) := by decide +kernel
theorem dL_law_434 : decode cL_law 434 = .ok (.iload 7, 2) := by decide +kernel
theorem dL_law_436 : decode cL_law 436 = .ok (.i2l, 1) := by decide +kernel
theorem dL_law_437 : decode cL_law 437 = .ok (.lcmp, 1) := by decide +kernel
theorem dL_law_438 : decode cL_law 438 = .ok (.ifCond .eq 5, 3) := by decide +kernel
theorem dL_law_441 : decode cL_law 441 = .ok (.iconst 0, 1) := by decide +kernel
theorem dL_law_442 : decode cL_law 442 = .ok (.ireturn, 1) := by decide +kernel
theorem dL_law_443 : decode cL_law 443 = .ok (.goto 1201, 3) := by decide +kernel
theorem dL_law_446 : decode cL_law 446 = .ok (.aload_n 1, 1) := by decide +kernel
theorem dL_law_447 : decode cL_law 447 = .ok (.aload_n 0, 1) := by decide +kernel
theorem dL_law_448 : decode cL_law 448 = .ok (.iload 5, 2) := by decide +kernel
theorem dL_law_450 : decode cL_law 450 = .ok (.iconst 1, 1) := by decide +kernel
theorem dL_law_451 : decode cL_law 451 = .ok (.iadd, 1) := by decide +kernel
theorem dL_law_452 : decode cL_law 452 = .ok (.iaload, 1) := by decide +kernel
theorem dL_law_453 : decode cL_law 453 = .ok (.aload_n 0, 1) := by decide +kernel
theorem dL_law_454 : decode cL_law 454 = .ok (.iload 5, 2) := by decide +kernel
theorem dL_law_456 : decode cL_law 456 = .ok (.iconst 2, 1) := by decide +kernel
theorem dL_law_457 : decode cL_law 457 = .ok (.iadd, 1) := by decide +kernel
theorem dL_law_458 : decode cL_law 458 = .ok (.iaload, 1) := by decide +kernel
theorem dL_law_459 : decode cL_law 459 = .ok (.aload_n 3, 1) := by decide +kernel
theorem dL_law_460 : decode cL_law 460 = .ok (.invokestatic 120, 3) := by decide +kernel
theorem dL_law_463 : decode cL_law 463 = .ok (.istore 6, 2) := by decide +kernel
theorem dL_law_465 : decode cL_law 465 = .ok (.aload_n 2, 1) := by decide +kernel
theorem dL_law_466 : decode cL_law 466 = .ok (.aload_n 0, 1) := by decide +kernel
theorem dL_law_467 : decode cL_law 467 = .ok (.iload 5, 2) := by decide +kernel
theorem dL_law_469 : decode cL_law 469 = .ok (.iconst 1, 1) := by decide +kernel
theorem dL_law_470 : decode cL_law 470 = .ok (.iadd, 1) := by decide +kernel
theorem dL_law_471 : decode cL_law 471 = .ok (.iaload, 1) := by decide +kernel
theorem dL_law_472 : decode cL_law 472 = .ok (.aload_n 0, 1) := by decide +kernel
theorem dL_law_473 : decode cL_law 473 = .ok (.iload 5, 2) := by decide +kernel
theorem dL_law_475 : decode cL_law 475 = .ok (.iconst 2, 1) := by decide +kernel
theorem dL_law_476 : decode cL_law 476 = .ok (.iadd, 1) := by decide +kernel
theorem dL_law_477 : decode cL_law 477 = .ok (.iaload, 1) := by decide +kernel
theorem dL_law_478 : decode cL_law 478 = .ok (.invokevirtual 122, 3) := by decide +kernel
theorem dL_law_481 : decode cL_law 481 = .ok (.istore 7, 2) := by decide +kernel
theorem dL_law_483 : decode cL_law 483 = .ok (.aload_n 2, 1) := by decide +kernel
theorem dL_law_484 : decode cL_law 484 = .ok (.invokevirtual 106, 3) := by decide +kernel
theorem dL_law_487 : decode cL_law 487 = .ok (.iload 6, 2) := by decide +kernel
theorem dL_law_489 : decode cL_law 489 = .ok (.if_icmp .eq 5, 3) := by decide +kernel
theorem dL_law_492 : decode cL_law 492 = .ok (.iconst 0, 1) := by decide +kernel
theorem dL_law_493 : decode cL_law 493 = .ok (.ireturn, 1) := by decide +kernel
theorem dL_law_494 : decode cL_law 494 = .ok (.iload 6, 2) := by decide +kernel
theorem dL_law_496 : decode cL_law 496 = .ok (.ifCond .ne 15, 3) := by decide +kernel
theorem dL_law_499 : decode cL_law 499 = .ok (.aload_n 3, 1) := by decide +kernel
theorem dL_law_500 : decode cL_law 500 = .ok (.iconst 0, 1) := by decide +kernel
theorem dL_law_501 : decode cL_law 501 = .ok (.laload, 1) := by decide +kernel
theorem dL_law_502 : decode cL_law 502 = .ok (.iload 7, 2) := by decide +kernel
theorem dL_law_504 : decode cL_law 504 = .ok (.i2l, 1) := by decide +kernel
theorem dL_law_505 : decode cL_law 505 = .ok (.lcmp, 1) := by decide +kernel
theorem dL_law_506 : decode cL_law 506 = .ok (.ifCond .eq 5, 3) := by decide +kernel
theorem dL_law_509 : decode cL_law 509 = .ok (.iconst 0, 1) := by decide +kernel
theorem dL_law_510 : decode cL_law 510 = .ok (.ireturn, 1) := by decide +kernel
theorem dL_law_511 : decode cL_law 511 = .ok (.goto 1133, 3) := by decide +kernel
theorem dL_law_514 : decode cL_law 514 = .ok (.aload_n 1, 1) := by decide +kernel
theorem dL_law_515 : decode cL_law 515 = .ok (.aload_n 0, 1) := by decide +kernel
theorem dL_law_516 : decode cL_law 516 = .ok (.iload 5, 2) := by decide +kernel
theorem dL_law_518 : decode cL_law 518 = .ok (.iconst 1, 1) := by decide +kernel
theorem dL_law_519 : decode cL_law 519 = .ok (.iadd, 1) := by decide +kernel
theorem dL_law_520 : decode cL_law 520 = .ok (.iaload, 1) := by decide +kernel
theorem dL_law_521 : decode cL_law 521 = .ok (.aload_n 3, 1) := by decide +kernel
theorem dL_law_522 : decode cL_law 522 = .ok (.invokestatic 123, 3) := by decide +kernel
theorem dL_law_525 : decode cL_law 525 = .ok (.istore 6, 2) := by decide +kernel
theorem dL_law_527 : decode cL_law 527 = .ok (.aload_n 2, 1) := by decide +kernel
theorem dL_law_528 : decode cL_law 528 = .ok (.aload_n 0, 1) := by decide +kernel
theorem dL_law_529 : decode cL_law 529 = .ok (.iload 5, 2) := by decide +kernel
theorem dL_law_531 : decode cL_law 531 = .ok (.iconst 1, 1) := by decide +kernel
theorem dL_law_532 : decode cL_law 532 = .ok (.iadd, 1) := by decide +kernel
theorem dL_law_533 : decode cL_law 533 = .ok (.iaload, 1) := by decide +kernel
theorem dL_law_534 : decode cL_law 534 = .ok (.invokevirtual 125, 3) := by decide +kernel
theorem dL_law_537 : decode cL_law 537 = .ok (.istore 7, 2) := by decide +kernel
theorem dL_law_539 : decode cL_law 539 = .ok (.aload_n 2, 1) := by decide +kernel
theorem dL_law_540 : decode cL_law 540 = .ok (.invokevirtual 106, 3) := by decide +kernel
theorem dL_law_543 : decode cL_law 543 = .ok (.iload 6, 2) := by decide +kernel
theorem dL_law_545 : decode cL_law 545 = .ok (.if_icmp .eq 5, 3) := by decide +kernel
theorem dL_law_548 : decode cL_law 548 = .ok (.iconst 0, 1) := by decide +kernel
theorem dL_law_549 : decode cL_law 549 = .ok (.ireturn, 1) := by decide +kernel
theorem dL_law_550 : decode cL_law 550 = .ok (.iload 6, 2) := by decide +kernel
theorem dL_law_552 : decode cL_law 552 = .ok (.ifCond .ne 22, 3) := by decide +kernel
theorem dL_law_555 : decode cL_law 555 = .ok (.aload_n 3, 1) := by decide +kernel
theorem dL_law_556 : decode cL_law 556 = .ok (.iconst 0, 1) := by decide +kernel
theorem dL_law_557 : decode cL_law 557 = .ok (.laload, 1) := by decide +kernel
theorem dL_law_558 : decode cL_law 558 = .ok (.iload 7, 2) := by decide +kernel
theorem dL_law_560 : decode cL_law 560 = .ok (.ifCond .eq 7, 3) := by decide +kernel
theorem dL_law_563 : decode cL_law 563 = .ok (.lconst 1, 1) := by decide +kernel
theorem dL_law_564 : decode cL_law 564 = .ok (.goto 4, 3) := by decide +kernel
theorem dL_law_567 : decode cL_law 567 = .ok (.lconst 0, 1) := by decide +kernel
theorem dL_law_568 : decode cL_law 568 = .ok (.lcmp, 1) := by decide +kernel
theorem dL_law_569 : decode cL_law 569 = .ok (.ifCond .eq 5, 3) := by decide +kernel
theorem dL_law_572 : decode cL_law 572 = .ok (.iconst 0, 1) := by decide +kernel
theorem dL_law_573 : decode cL_law 573 = .ok (.ireturn, 1) := by decide +kernel
theorem dL_law_574 : decode cL_law 574 = .ok (.goto 1070, 3) := by decide +kernel
theorem dL_law_577 : decode cL_law 577 = .ok (.aload_n 1, 1) := by decide +kernel
theorem dL_law_578 : decode cL_law 578 = .ok (.aload_n 0, 1) := by decide +kernel
theorem dL_law_579 : decode cL_law 579 = .ok (.iload 5, 2) := by decide +kernel
theorem dL_law_581 : decode cL_law 581 = .ok (.iconst 1, 1) := by decide +kernel
theorem dL_law_582 : decode cL_law 582 = .ok (.iadd, 1) := by decide +kernel
theorem dL_law_583 : decode cL_law 583 = .ok (.iaload, 1) := by decide +kernel
theorem dL_law_584 : decode cL_law 584 = .ok (.aload_n 3, 1) := by decide +kernel
theorem dL_law_585 : decode cL_law 585 = .ok (.invokestatic 126, 3) := by decide +kernel
theorem dL_law_588 : decode cL_law 588 = .ok (.istore 6, 2) := by decide +kernel
theorem dL_law_590 : decode cL_law 590 = .ok (.aload_n 2, 1) := by decide +kernel
theorem dL_law_591 : decode cL_law 591 = .ok (.aload_n 0, 1) := by decide +kernel
theorem dL_law_592 : decode cL_law 592 = .ok (.iload 5, 2) := by decide +kernel
theorem dL_law_594 : decode cL_law 594 = .ok (.iconst 1, 1) := by decide +kernel
theorem dL_law_595 : decode cL_law 595 = .ok (.iadd, 1) := by decide +kernel
theorem dL_law_596 : decode cL_law 596 = .ok (.iaload, 1) := by decide +kernel
theorem dL_law_597 : decode cL_law 597 = .ok (.invokevirtual 128, 3) := by decide +kernel
theorem dL_law_600 : decode cL_law 600 = .ok (.istore 7, 2) := by decide +kernel
theorem dL_law_602 : decode cL_law 602 = .ok (.aload_n 2, 1) := by decide +kernel
theorem dL_law_603 : decode cL_law 603 = .ok (.invokevirtual 106, 3) := by decide +kernel
theorem dL_law_606 : decode cL_law 606 = .ok (.iload 6, 2) := by decide +kernel
theorem dL_law_608 : decode cL_law 608 = .ok (.if_icmp .eq 5, 3) := by decide +kernel
theorem dL_law_611 : decode cL_law 611 = .ok (.iconst 0, 1) := by decide +kernel
theorem dL_law_612 : decode cL_law 612 = .ok (.ireturn, 1) := by decide +kernel
theorem dL_law_613 : decode cL_law 613 = .ok (.iload 6, 2) := by decide +kernel
theorem dL_law_615 : decode cL_law 615 = .ok (.ifCond .ne 22, 3) := by decide +kernel
theorem dL_law_618 : decode cL_law 618 = .ok (.aload_n 3, 1) := by decide +kernel
theorem dL_law_619 : decode cL_law 619 = .ok (.iconst 0, 1) := by decide +kernel
theorem dL_law_620 : decode cL_law 620 = .ok (.laload, 1) := by decide +kernel
theorem dL_law_621 : decode cL_law 621 = .ok (.iload 7, 2) := by decide +kernel
theorem dL_law_623 : decode cL_law 623 = .ok (.ifCond .eq 7, 3) := by decide +kernel
theorem dL_law_626 : decode cL_law 626 = .ok (.lconst 1, 1) := by decide +kernel
theorem dL_law_627 : decode cL_law 627 = .ok (.goto 4, 3) := by decide +kernel
theorem dL_law_630 : decode cL_law 630 = .ok (.lconst 0, 1) := by decide +kernel
theorem dL_law_631 : decode cL_law 631 = .ok (.lcmp, 1) := by decide +kernel
theorem dL_law_632 : decode cL_law 632 = .ok (.ifCond .eq 5, 3) := by decide +kernel
theorem dL_law_635 : decode cL_law 635 = .ok (.iconst 0, 1) := by decide +kernel
theorem dL_law_636 : decode cL_law 636 = .ok (.ireturn, 1) := by decide +kernel
theorem dL_law_637 : decode cL_law 637 = .ok (.goto 1007, 3) := by decide +kernel
theorem dL_law_640 : decode cL_law 640 = .ok (.aload_n 1, 1) := by decide +kernel
theorem dL_law_641 : decode cL_law 641 = .ok (.aload_n 0, 1) := by decide +kernel
theorem dL_law_642 : decode cL_law 642 = .ok (.iload 5, 2) := by decide +kernel
theorem dL_law_644 : decode cL_law 644 = .ok (.iconst 1, 1) := by decide +kernel
theorem dL_law_645 : decode cL_law 645 = .ok (.iadd, 1) := by decide +kernel
theorem dL_law_646 : decode cL_law 646 = .ok (.iaload, 1) := by decide +kernel
theorem dL_law_647 : decode cL_law 647 = .ok (.aload_n 3, 1) := by decide +kernel
theorem dL_law_648 : decode cL_law 648 = .ok (.invokestatic 129, 3) := by decide +kernel
theorem dL_law_651 : decode cL_law 651 = .ok (.istore 6, 2) := by decide +kernel
theorem dL_law_653 : decode cL_law 653 = .ok (.aload_n 2, 1) := by decide +kernel
theorem dL_law_654 : decode cL_law 654 = .ok (.aload_n 0, 1) := by decide +kernel
theorem dL_law_655 : decode cL_law 655 = .ok (.iload 5, 2) := by decide +kernel
theorem dL_law_657 : decode cL_law 657 = .ok (.iconst 1, 1) := by decide +kernel
theorem dL_law_658 : decode cL_law 658 = .ok (.iadd, 1) := by decide +kernel
theorem dL_law_659 : decode cL_law 659 = .ok (.iaload, 1) := by decide +kernel
theorem dL_law_660 : decode cL_law 660 = .ok (.invokevirtual 131, 3) := by decide +kernel
theorem dL_law_663 : decode cL_law 663 = .ok (.lstore 7, 2) := by decide +kernel
theorem dL_law_665 : decode cL_law 665 = .ok (.aload_n 2, 1) := by decide +kernel
theorem dL_law_666 : decode cL_law 666 = .ok (.invokevirtual 106, 3) := by decide +kernel
theorem dL_law_669 : decode cL_law 669 = .ok (.iload 6, 2) := by decide +kernel
theorem dL_law_671 : decode cL_law 671 = .ok (.if_icmp .eq 5, 3) := by decide +kernel
theorem dL_law_674 : decode cL_law 674 = .ok (.iconst 0, 1) := by decide +kernel
theorem dL_law_675 : decode cL_law 675 = .ok (.ireturn, 1) := by decide +kernel
theorem dL_law_676 : decode cL_law 676 = .ok (.iload 6, 2) := by decide +kernel
theorem dL_law_678 : decode cL_law 678 = .ok (.ifCond .ne 14, 3) := by decide +kernel
theorem dL_law_681 : decode cL_law 681 = .ok (.aload_n 3, 1) := by decide +kernel
theorem dL_law_682 : decode cL_law 682 = .ok (.iconst 0, 1) := by decide +kernel
theorem dL_law_683 : decode cL_law 683 = .ok (.laload, 1) := by decide +kernel
theorem dL_law_684 : decode cL_law 684 = .ok (.lload 7, 2) := by decide +kernel
theorem dL_law_686 : decode cL_law 686 = .ok (.lcmp, 1) := by decide +kernel
theorem dL_law_687 : decode cL_law 687 = .ok (.ifCond .eq 5, 3) := by decide +kernel
theorem dL_law_690 : decode cL_law 690 = .ok (.iconst 0, 1) := by decide +kernel
theorem dL_law_691 : decode cL_law 691 = .ok (.ireturn, 1) := by decide +kernel
theorem dL_law_692 : decode cL_law 692 = .ok (.goto 952, 3) := by decide +kernel
theorem dL_law_695 : decode cL_law 695 = .ok (.aload_n 1, 1) := by decide +kernel
theorem dL_law_696 : decode cL_law 696 = .ok (.aload_n 0, 1) := by decide +kernel
theorem dL_law_697 : decode cL_law 697 = .ok (.iload 5, 2) := by decide +kernel
theorem dL_law_699 : decode cL_law 699 = .ok (.iconst 1, 1) := by decide +kernel
theorem dL_law_700 : decode cL_law 700 = .ok (.iadd, 1) := by decide +kernel
theorem dL_law_701 : decode cL_law 701 = .ok (.iaload, 1) := by decide +kernel
theorem dL_law_702 : decode cL_law 702 = .ok (.aload_n 3, 1) := by decide +kernel
theorem dL_law_703 : decode cL_law 703 = .ok (.invokestatic 132, 3) := by decide +kernel
theorem dL_law_706 : decode cL_law 706 = .ok (.istore 6, 2) := by decide +kernel
theorem dL_law_708 : decode cL_law 708 = .ok (.aload_n 2, 1) := by decide +kernel
theorem dL_law_709 : decode cL_law 709 = .ok (.aload_n 0, 1) := by decide +kernel
theorem dL_law_710 : decode cL_law 710 = .ok (.iload 5, 2) := by decide +kernel
theorem dL_law_712 : decode cL_law 712 = .ok (.iconst 1, 1) := by decide +kernel
theorem dL_law_713 : decode cL_law 713 = .ok (.iadd, 1) := by decide +kernel
theorem dL_law_714 : decode cL_law 714 = .ok (.iaload, 1) := by decide +kernel
theorem dL_law_715 : decode cL_law 715 = .ok (.invokevirtual 134, 3) := by decide +kernel
theorem dL_law_718 : decode cL_law 718 = .ok (.istore 7, 2) := by decide +kernel
theorem dL_law_720 : decode cL_law 720 = .ok (.aload_n 2, 1) := by decide +kernel
theorem dL_law_721 : decode cL_law 721 = .ok (.invokevirtual 106, 3) := by decide +kernel
theorem dL_law_724 : decode cL_law 724 = .ok (.iload 6, 2) := by decide +kernel
theorem dL_law_726 : decode cL_law 726 = .ok (.if_icmp .eq 5, 3) := by decide +kernel
theorem dL_law_729 : decode cL_law 729 = .ok (.iconst 0, 1) := by decide +kernel
theorem dL_law_730 : decode cL_law 730 = .ok (.ireturn, 1) := by decide +kernel
theorem dL_law_731 : decode cL_law 731 = .ok (.iload 6, 2) := by decide +kernel
theorem dL_law_733 : decode cL_law 733 = .ok (.ifCond .ne 15, 3) := by decide +kernel
theorem dL_law_736 : decode cL_law 736 = .ok (.aload_n 3, 1) := by decide +kernel
theorem dL_law_737 : decode cL_law 737 = .ok (.iconst 0, 1) := by decide +kernel
theorem dL_law_738 : decode cL_law 738 = .ok (.laload, 1) := by decide +kernel
theorem dL_law_739 : decode cL_law 739 = .ok (.iload 7, 2) := by decide +kernel
theorem dL_law_741 : decode cL_law 741 = .ok (.i2l, 1) := by decide +kernel
theorem dL_law_742 : decode cL_law 742 = .ok (.lcmp, 1) := by decide +kernel
theorem dL_law_743 : decode cL_law 743 = .ok (.ifCond .eq 5, 3) := by decide +kernel
theorem dL_law_746 : decode cL_law 746 = .ok (.iconst 0, 1) := by decide +kernel
theorem dL_law_747 : decode cL_law 747 = .ok (.ireturn, 1) := by decide +kernel
theorem dL_law_748 : decode cL_law 748 = .ok (.goto 896, 3) := by decide +kernel
theorem dL_law_751 : decode cL_law 751 = .ok (.aload_n 1, 1) := by decide +kernel
theorem dL_law_752 : decode cL_law 752 = .ok (.aload_n 0, 1) := by decide +kernel
theorem dL_law_753 : decode cL_law 753 = .ok (.iload 5, 2) := by decide +kernel
theorem dL_law_755 : decode cL_law 755 = .ok (.iconst 1, 1) := by decide +kernel
theorem dL_law_756 : decode cL_law 756 = .ok (.iadd, 1) := by decide +kernel
theorem dL_law_757 : decode cL_law 757 = .ok (.iaload, 1) := by decide +kernel
theorem dL_law_758 : decode cL_law 758 = .ok (.aload_n 0, 1) := by decide +kernel
theorem dL_law_759 : decode cL_law 759 = .ok (.iload 5, 2) := by decide +kernel
theorem dL_law_761 : decode cL_law 761 = .ok (.iconst 2, 1) := by decide +kernel
theorem dL_law_762 : decode cL_law 762 = .ok (.iadd, 1) := by decide +kernel
theorem dL_law_763 : decode cL_law 763 = .ok (.iaload, 1) := by decide +kernel
theorem dL_law_764 : decode cL_law 764 = .ok (.aload_n 3, 1) := by decide +kernel
theorem dL_law_765 : decode cL_law 765 = .ok (.invokestatic 135, 3) := by decide +kernel
theorem dL_law_768 : decode cL_law 768 = .ok (.istore 6, 2) := by decide +kernel
theorem dL_law_770 : decode cL_law 770 = .ok (.aload_n 2, 1) := by decide +kernel
theorem dL_law_771 : decode cL_law 771 = .ok (.aload_n 0, 1) := by decide +kernel
theorem dL_law_772 : decode cL_law 772 = .ok (.iload 5, 2) := by decide +kernel
theorem dL_law_774 : decode cL_law 774 = .ok (.iconst 1, 1) := by decide +kernel
theorem dL_law_775 : decode cL_law 775 = .ok (.iadd, 1) := by decide +kernel
theorem dL_law_776 : decode cL_law 776 = .ok (.iaload, 1) := by decide +kernel
theorem dL_law_777 : decode cL_law 777 = .ok (.aload_n 0, 1) := by decide +kernel
theorem dL_law_778 : decode cL_law 778 = .ok (.iload 5, 2) := by decide +kernel
theorem dL_law_780 : decode cL_law 780 = .ok (.iconst 2, 1) := by decide +kernel
theorem dL_law_781 : decode cL_law 781 = .ok (.iadd, 1) := by decide +kernel
theorem dL_law_782 : decode cL_law 782 = .ok (.iaload, 1) := by decide +kernel
theorem dL_law_783 : decode cL_law 783 = .ok (.invokevirtual 137, 3) := by decide +kernel
theorem dL_law_786 : decode cL_law 786 = .ok (.istore 7, 2) := by decide +kernel
theorem dL_law_788 : decode cL_law 788 = .ok (.aload_n 2, 1) := by decide +kernel
theorem dL_law_789 : decode cL_law 789 = .ok (.invokevirtual 106, 3) := by decide +kernel
theorem dL_law_792 : decode cL_law 792 = .ok (.iload 6, 2) := by decide +kernel
theorem dL_law_794 : decode cL_law 794 = .ok (.if_icmp .eq 5, 3) := by decide +kernel
theorem dL_law_797 : decode cL_law 797 = .ok (.iconst 0, 1) := by decide +kernel
theorem dL_law_798 : decode cL_law 798 = .ok (.ireturn, 1) := by decide +kernel
theorem dL_law_799 : decode cL_law 799 = .ok (.iload 6, 2) := by decide +kernel
theorem dL_law_801 : decode cL_law 801 = .ok (.ifCond .ne 22, 3) := by decide +kernel
theorem dL_law_804 : decode cL_law 804 = .ok (.aload_n 3, 1) := by decide +kernel
theorem dL_law_805 : decode cL_law 805 = .ok (.iconst 0, 1) := by decide +kernel
theorem dL_law_806 : decode cL_law 806 = .ok (.laload, 1) := by decide +kernel
theorem dL_law_807 : decode cL_law 807 = .ok (.iload 7, 2) := by decide +kernel
theorem dL_law_809 : decode cL_law 809 = .ok (.ifCond .eq 7, 3) := by decide +kernel
theorem dL_law_812 : decode cL_law 812 = .ok (.lconst 1, 1) := by decide +kernel
theorem dL_law_813 : decode cL_law 813 = .ok (.goto 4, 3) := by decide +kernel
theorem dL_law_816 : decode cL_law 816 = .ok (.lconst 0, 1) := by decide +kernel
theorem dL_law_817 : decode cL_law 817 = .ok (.lcmp, 1) := by decide +kernel
theorem dL_law_818 : decode cL_law 818 = .ok (.ifCond .eq 5, 3) := by decide +kernel
theorem dL_law_821 : decode cL_law 821 = .ok (.iconst 0, 1) := by decide +kernel
theorem dL_law_822 : decode cL_law 822 = .ok (.ireturn, 1) := by decide +kernel
theorem dL_law_823 : decode cL_law 823 = .ok (.goto 821, 3) := by decide +kernel
theorem dL_law_826 : decode cL_law 826 = .ok (.aload_n 1, 1) := by decide +kernel
theorem dL_law_827 : decode cL_law 827 = .ok (.aload_n 0, 1) := by decide +kernel
theorem dL_law_828 : decode cL_law 828 = .ok (.iload 5, 2) := by decide +kernel
theorem dL_law_830 : decode cL_law 830 = .ok (.iconst 1, 1) := by decide +kernel
theorem dL_law_831 : decode cL_law 831 = .ok (.iadd, 1) := by decide +kernel
theorem dL_law_832 : decode cL_law 832 = .ok (.iaload, 1) := by decide +kernel
theorem dL_law_833 : decode cL_law 833 = .ok (.aload_n 0, 1) := by decide +kernel
theorem dL_law_834 : decode cL_law 834 = .ok (.iload 5, 2) := by decide +kernel
theorem dL_law_836 : decode cL_law 836 = .ok (.iconst 2, 1) := by decide +kernel
theorem dL_law_837 : decode cL_law 837 = .ok (.iadd, 1) := by decide +kernel
theorem dL_law_838 : decode cL_law 838 = .ok (.iaload, 1) := by decide +kernel
theorem dL_law_839 : decode cL_law 839 = .ok (.aload_n 3, 1) := by decide +kernel
theorem dL_law_840 : decode cL_law 840 = .ok (.invokestatic 138, 3) := by decide +kernel
theorem dL_law_843 : decode cL_law 843 = .ok (.istore 6, 2) := by decide +kernel
theorem dL_law_845 : decode cL_law 845 = .ok (.aload_n 2, 1) := by decide +kernel
theorem dL_law_846 : decode cL_law 846 = .ok (.aload_n 0, 1) := by decide +kernel
theorem dL_law_847 : decode cL_law 847 = .ok (.iload 5, 2) := by decide +kernel
theorem dL_law_849 : decode cL_law 849 = .ok (.iconst 1, 1) := by decide +kernel
theorem dL_law_850 : decode cL_law 850 = .ok (.iadd, 1) := by decide +kernel
theorem dL_law_851 : decode cL_law 851 = .ok (.iaload, 1) := by decide +kernel
theorem dL_law_852 : decode cL_law 852 = .ok (.aload_n 0, 1) := by decide +kernel
theorem dL_law_853 : decode cL_law 853 = .ok (.iload 5, 2) := by decide +kernel
theorem dL_law_855 : decode cL_law 855 = .ok (.iconst 2, 1) := by decide +kernel
theorem dL_law_856 : decode cL_law 856 = .ok (.iadd, 1) := by decide +kernel
theorem dL_law_857 : decode cL_law 857 = .ok (.iaload, 1) := by decide +kernel
theorem dL_law_858 : decode cL_law 858 = .ok (.invokevirtual 140, 3) := by decide +kernel
theorem dL_law_861 : decode cL_law 861 = .ok (.lstore 7, 2) := by decide +kernel
theorem dL_law_863 : decode cL_law 863 = .ok (.aload_n 2, 1) := by decide +kernel
theorem dL_law_864 : decode cL_law 864 = .ok (.invokevirtual 106, 3) := by decide +kernel
theorem dL_law_867 : decode cL_law 867 = .ok (.iload 6, 2) := by decide +kernel
theorem dL_law_869 : decode cL_law 869 = .ok (.if_icmp .eq 5, 3) := by decide +kernel
theorem dL_law_872 : decode cL_law 872 = .ok (.iconst 0, 1) := by decide +kernel
theorem dL_law_873 : decode cL_law 873 = .ok (.ireturn, 1) := by decide +kernel
theorem dL_law_874 : decode cL_law 874 = .ok (.iload 6, 2) := by decide +kernel
theorem dL_law_876 : decode cL_law 876 = .ok (.ifCond .ne 14, 3) := by decide +kernel
theorem dL_law_879 : decode cL_law 879 = .ok (.aload_n 3, 1) := by decide +kernel
theorem dL_law_880 : decode cL_law 880 = .ok (.iconst 0, 1) := by decide +kernel
theorem dL_law_881 : decode cL_law 881 = .ok (.laload, 1) := by decide +kernel
theorem dL_law_882 : decode cL_law 882 = .ok (.lload 7, 2) := by decide +kernel
theorem dL_law_884 : decode cL_law 884 = .ok (.lcmp, 1) := by decide +kernel
theorem dL_law_885 : decode cL_law 885 = .ok (.ifCond .eq 5, 3) := by decide +kernel
theorem dL_law_888 : decode cL_law 888 = .ok (.iconst 0, 1) := by decide +kernel
theorem dL_law_889 : decode cL_law 889 = .ok (.ireturn, 1) := by decide +kernel
theorem dL_law_890 : decode cL_law 890 = .ok (.goto 754, 3) := by decide +kernel
theorem dL_law_893 : decode cL_law 893 = .ok (.aload_n 1, 1) := by decide +kernel
theorem dL_law_894 : decode cL_law 894 = .ok (.aload_n 0, 1) := by decide +kernel
theorem dL_law_895 : decode cL_law 895 = .ok (.iload 5, 2) := by decide +kernel
theorem dL_law_897 : decode cL_law 897 = .ok (.iconst 1, 1) := by decide +kernel
theorem dL_law_898 : decode cL_law 898 = .ok (.iadd, 1) := by decide +kernel
theorem dL_law_899 : decode cL_law 899 = .ok (.iaload, 1) := by decide +kernel
theorem dL_law_900 : decode cL_law 900 = .ok (.aload_n 3, 1) := by decide +kernel
theorem dL_law_901 : decode cL_law 901 = .ok (.invokestatic 141, 3) := by decide +kernel
theorem dL_law_904 : decode cL_law 904 = .ok (.istore 6, 2) := by decide +kernel
theorem dL_law_906 : decode cL_law 906 = .ok (.aload_n 2, 1) := by decide +kernel
theorem dL_law_907 : decode cL_law 907 = .ok (.aload_n 0, 1) := by decide +kernel
theorem dL_law_908 : decode cL_law 908 = .ok (.iload 5, 2) := by decide +kernel
theorem dL_law_910 : decode cL_law 910 = .ok (.iconst 1, 1) := by decide +kernel
theorem dL_law_911 : decode cL_law 911 = .ok (.iadd, 1) := by decide +kernel
theorem dL_law_912 : decode cL_law 912 = .ok (.iaload, 1) := by decide +kernel
theorem dL_law_913 : decode cL_law 913 = .ok (.invokevirtual 143, 3) := by decide +kernel
theorem dL_law_916 : decode cL_law 916 = .ok (.istore 7, 2) := by decide +kernel
theorem dL_law_918 : decode cL_law 918 = .ok (.aload_n 2, 1) := by decide +kernel
theorem dL_law_919 : decode cL_law 919 = .ok (.invokevirtual 106, 3) := by decide +kernel
theorem dL_law_922 : decode cL_law 922 = .ok (.iload 6, 2) := by decide +kernel
theorem dL_law_924 : decode cL_law 924 = .ok (.if_icmp .eq 5, 3) := by decide +kernel
theorem dL_law_927 : decode cL_law 927 = .ok (.iconst 0, 1) := by decide +kernel
theorem dL_law_928 : decode cL_law 928 = .ok (.ireturn, 1) := by decide +kernel
theorem dL_law_929 : decode cL_law 929 = .ok (.iload 6, 2) := by decide +kernel
theorem dL_law_931 : decode cL_law 931 = .ok (.ifCond .ne 15, 3) := by decide +kernel
theorem dL_law_934 : decode cL_law 934 = .ok (.aload_n 3, 1) := by decide +kernel
theorem dL_law_935 : decode cL_law 935 = .ok (.iconst 0, 1) := by decide +kernel
theorem dL_law_936 : decode cL_law 936 = .ok (.laload, 1) := by decide +kernel
theorem dL_law_937 : decode cL_law 937 = .ok (.iload 7, 2) := by decide +kernel
theorem dL_law_939 : decode cL_law 939 = .ok (.i2l, 1) := by decide +kernel
theorem dL_law_940 : decode cL_law 940 = .ok (.lcmp, 1) := by decide +kernel
theorem dL_law_941 : decode cL_law 941 = .ok (.ifCond .eq 5, 3) := by decide +kernel
theorem dL_law_944 : decode cL_law 944 = .ok (.iconst 0, 1) := by decide +kernel
theorem dL_law_945 : decode cL_law 945 = .ok (.ireturn, 1) := by decide +kernel
theorem dL_law_946 : decode cL_law 946 = .ok (.goto 698, 3) := by decide +kernel
theorem dL_law_949 : decode cL_law 949 = .ok (.aload_n 1, 1) := by decide +kernel
theorem dL_law_950 : decode cL_law 950 = .ok (.invokevirtual 144, 3) := by decide +kernel
theorem dL_law_953 : decode cL_law 953 = .ok (.aload_n 2, 1) := by decide +kernel
theorem dL_law_954 : decode cL_law 954 = .ok (.invokevirtual 147, 3) := by decide +kernel
theorem dL_law_957 : decode cL_law 957 = .ok (.if_icmp .eq 687, 3) := by decide +kernel
theorem dL_law_960 : decode cL_law 960 = .ok (.iconst 0, 1) := by decide +kernel
theorem dL_law_961 : decode cL_law 961 = .ok (.ireturn, 1) := by decide +kernel
theorem dL_law_962 : decode cL_law 962 = .ok (.aload_n 1, 1) := by decide +kernel
theorem dL_law_963 : decode cL_law 963 = .ok (.aload_n 0, 1) := by decide +kernel
theorem dL_law_964 : decode cL_law 964 = .ok (.iload 5, 2) := by decide +kernel
theorem dL_law_966 : decode cL_law 966 = .ok (.iconst 1, 1) := by decide +kernel
theorem dL_law_967 : decode cL_law 967 = .ok (.iadd, 1) := by decide +kernel
theorem dL_law_968 : decode cL_law 968 = .ok (.iaload, 1) := by decide +kernel
theorem dL_law_969 : decode cL_law 969 = .ok (.aload_n 3, 1) := by decide +kernel
theorem dL_law_970 : decode cL_law 970 = .ok (.invokestatic 148, 3) := by decide +kernel
theorem dL_law_973 : decode cL_law 973 = .ok (.istore 6, 2) := by decide +kernel
theorem dL_law_975 : decode cL_law 975 = .ok (.aload_n 2, 1) := by decide +kernel
theorem dL_law_976 : decode cL_law 976 = .ok (.aload_n 0, 1) := by decide +kernel
theorem dL_law_977 : decode cL_law 977 = .ok (.iload 5, 2) := by decide +kernel
theorem dL_law_979 : decode cL_law 979 = .ok (.iconst 1, 1) := by decide +kernel
theorem dL_law_980 : decode cL_law 980 = .ok (.iadd, 1) := by decide +kernel
theorem dL_law_981 : decode cL_law 981 = .ok (.iaload, 1) := by decide +kernel
theorem dL_law_982 : decode cL_law 982 = .ok (.invokevirtual 150, 3) := by decide +kernel
theorem dL_law_985 : decode cL_law 985 = .ok (.istore 7, 2) := by decide +kernel
theorem dL_law_987 : decode cL_law 987 = .ok (.aload_n 2, 1) := by decide +kernel
theorem dL_law_988 : decode cL_law 988 = .ok (.invokevirtual 106, 3) := by decide +kernel
theorem dL_law_991 : decode cL_law 991 = .ok (.iload 6, 2) := by decide +kernel
theorem dL_law_993 : decode cL_law 993 = .ok (.if_icmp .eq 5, 3) := by decide +kernel
theorem dL_law_996 : decode cL_law 996 = .ok (.iconst 0, 1) := by decide +kernel
theorem dL_law_997 : decode cL_law 997 = .ok (.ireturn, 1) := by decide +kernel
theorem dL_law_998 : decode cL_law 998 = .ok (.iload 6, 2) := by decide +kernel
theorem dL_law_1000 : decode cL_law 1000 = .ok (.ifCond .ne 15, 3) := by decide +kernel
theorem dL_law_1003 : decode cL_law 1003 = .ok (.aload_n 3, 1) := by decide +kernel
theorem dL_law_1004 : decode cL_law 1004 = .ok (.iconst 0, 1) := by decide +kernel
theorem dL_law_1005 : decode cL_law 1005 = .ok (.laload, 1) := by decide +kernel
theorem dL_law_1006 : decode cL_law 1006 = .ok (.iload 7, 2) := by decide +kernel
theorem dL_law_1008 : decode cL_law 1008 = .ok (.i2l, 1) := by decide +kernel
theorem dL_law_1009 : decode cL_law 1009 = .ok (.lcmp, 1) := by decide +kernel
theorem dL_law_1010 : decode cL_law 1010 = .ok (.ifCond .eq 5, 3) := by decide +kernel
theorem dL_law_1013 : decode cL_law 1013 = .ok (.iconst 0, 1) := by decide +kernel
theorem dL_law_1014 : decode cL_law 1014 = .ok (.ireturn, 1) := by decide +kernel
theorem dL_law_1015 : decode cL_law 1015 = .ok (.goto 629, 3) := by decide +kernel
theorem dL_law_1018 : decode cL_law 1018 = .ok (.aload_n 1, 1) := by decide +kernel
theorem dL_law_1019 : decode cL_law 1019 = .ok (.aload_n 0, 1) := by decide +kernel
theorem dL_law_1020 : decode cL_law 1020 = .ok (.iload 5, 2) := by decide +kernel
theorem dL_law_1022 : decode cL_law 1022 = .ok (.iconst 1, 1) := by decide +kernel
theorem dL_law_1023 : decode cL_law 1023 = .ok (.iadd, 1) := by decide +kernel
theorem dL_law_1024 : decode cL_law 1024 = .ok (.iaload, 1) := by decide +kernel
theorem dL_law_1025 : decode cL_law 1025 = .ok (.i2c, 1) := by decide +kernel
theorem dL_law_1026 : decode cL_law 1026 = .ok (.aload_n 0, 1) := by decide +kernel
theorem dL_law_1027 : decode cL_law 1027 = .ok (.iload 5, 2) := by decide +kernel
theorem dL_law_1029 : decode cL_law 1029 = .ok (.iconst 2, 1) := by decide +kernel
theorem dL_law_1030 : decode cL_law 1030 = .ok (.iadd, 1) := by decide +kernel
theorem dL_law_1031 : decode cL_law 1031 = .ok (.iaload, 1) := by decide +kernel
theorem dL_law_1032 : decode cL_law 1032 = .ok (.aload_n 3, 1) := by decide +kernel
theorem dL_law_1033 : decode cL_law 1033 = .ok (.invokestatic 151, 3) := by decide +kernel
theorem dL_law_1036 : decode cL_law 1036 = .ok (.istore 6, 2) := by decide +kernel
theorem dL_law_1038 : decode cL_law 1038 = .ok (.aload_n 2, 1) := by decide +kernel
theorem dL_law_1039 : decode cL_law 1039 = .ok (.aload_n 0, 1) := by decide +kernel
theorem dL_law_1040 : decode cL_law 1040 = .ok (.iload 5, 2) := by decide +kernel
theorem dL_law_1042 : decode cL_law 1042 = .ok (.iconst 1, 1) := by decide +kernel
theorem dL_law_1043 : decode cL_law 1043 = .ok (.iadd, 1) := by decide +kernel
theorem dL_law_1044 : decode cL_law 1044 = .ok (.iaload, 1) := by decide +kernel
theorem dL_law_1045 : decode cL_law 1045 = .ok (.i2c, 1) := by decide +kernel
theorem dL_law_1046 : decode cL_law 1046 = .ok (.aload_n 0, 1) := by decide +kernel
theorem dL_law_1047 : decode cL_law 1047 = .ok (.iload 5, 2) := by decide +kernel
theorem dL_law_1049 : decode cL_law 1049 = .ok (.iconst 2, 1) := by decide +kernel
theorem dL_law_1050 : decode cL_law 1050 = .ok (.iadd, 1) := by decide +kernel
theorem dL_law_1051 : decode cL_law 1051 = .ok (.iaload, 1) := by decide +kernel
theorem dL_law_1052 : decode cL_law 1052 = .ok (.invokevirtual 154, 3) := by decide +kernel
theorem dL_law_1055 : decode cL_law 1055 = .ok (.istore 7, 2) := by decide +kernel
theorem dL_law_1057 : decode cL_law 1057 = .ok (.aload_n 2, 1) := by decide +kernel
theorem dL_law_1058 : decode cL_law 1058 = .ok (.invokevirtual 106, 3) := by decide +kernel
theorem dL_law_1061 : decode cL_law 1061 = .ok (.iload 6, 2) := by decide +kernel
theorem dL_law_1063 : decode cL_law 1063 = .ok (.if_icmp .eq 5, 3) := by decide +kernel
theorem dL_law_1066 : decode cL_law 1066 = .ok (.iconst 0, 1) := by decide +kernel
theorem dL_law_1067 : decode cL_law 1067 = .ok (.ireturn, 1) := by decide +kernel
theorem dL_law_1068 : decode cL_law 1068 = .ok (.iload 6, 2) := by decide +kernel
theorem dL_law_1070 : decode cL_law 1070 = .ok (.ifCond .ne 15, 3) := by decide +kernel
theorem dL_law_1073 : decode cL_law 1073 = .ok (.aload_n 3, 1) := by decide +kernel
theorem dL_law_1074 : decode cL_law 1074 = .ok (.iconst 0, 1) := by decide +kernel
theorem dL_law_1075 : decode cL_law 1075 = .ok (.laload, 1) := by decide +kernel
theorem dL_law_1076 : decode cL_law 1076 = .ok (.iload 7, 2) := by decide +kernel
theorem dL_law_1078 : decode cL_law 1078 = .ok (.i2l, 1) := by decide +kernel
theorem dL_law_1079 : decode cL_law 1079 = .ok (.lcmp, 1) := by decide +kernel
theorem dL_law_1080 : decode cL_law 1080 = .ok (.ifCond .eq 5, 3) := by decide +kernel
theorem dL_law_1083 : decode cL_law 1083 = .ok (.iconst 0, 1) := by decide +kernel
theorem dL_law_1084 : decode cL_law 1084 = .ok (.ireturn, 1) := by decide +kernel
theorem dL_law_1085 : decode cL_law 1085 = .ok (.goto 559, 3) := by decide +kernel
theorem dL_law_1088 : decode cL_law 1088 = .ok (.aload_n 1, 1) := by decide +kernel
theorem dL_law_1089 : decode cL_law 1089 = .ok (.aload_n 0, 1) := by decide +kernel
theorem dL_law_1090 : decode cL_law 1090 = .ok (.iload 5, 2) := by decide +kernel
theorem dL_law_1092 : decode cL_law 1092 = .ok (.iconst 1, 1) := by decide +kernel
theorem dL_law_1093 : decode cL_law 1093 = .ok (.iadd, 1) := by decide +kernel
theorem dL_law_1094 : decode cL_law 1094 = .ok (.iaload, 1) := by decide +kernel
theorem dL_law_1095 : decode cL_law 1095 = .ok (.ifCond .eq 7, 3) := by decide +kernel
theorem dL_law_1098 : decode cL_law 1098 = .ok (.iconst 1, 1) := by decide +kernel
theorem dL_law_1099 : decode cL_law 1099 = .ok (.goto 4, 3) := by decide +kernel
theorem dL_law_1102 : decode cL_law 1102 = .ok (.iconst 0, 1) := by decide +kernel
theorem dL_law_1103 : decode cL_law 1103 = .ok (.invokevirtual 155, 3) := by decide +kernel
theorem dL_law_1106 : decode cL_law 1106 = .ok (.aload_n 2, 1) := by decide +kernel
theorem dL_law_1107 : decode cL_law 1107 = .ok (.aload_n 0, 1) := by decide +kernel
theorem dL_law_1108 : decode cL_law 1108 = .ok (.iload 5, 2) := by decide +kernel
theorem dL_law_1110 : decode cL_law 1110 = .ok (.iconst 1, 1) := by decide +kernel
theorem dL_law_1111 : decode cL_law 1111 = .ok (.iadd, 1) := by decide +kernel
theorem dL_law_1112 : decode cL_law 1112 = .ok (.iaload, 1) := by decide +kernel
theorem dL_law_1113 : decode cL_law 1113 = .ok (.ifCond .eq 7, 3) := by decide +kernel
theorem dL_law_1116 : decode cL_law 1116 = .ok (.iconst 1, 1) := by decide +kernel
theorem dL_law_1117 : decode cL_law 1117 = .ok (.goto 4, 3) := by decide +kernel
theorem dL_law_1120 : decode cL_law 1120 = .ok (.iconst 0, 1) := by decide +kernel
theorem dL_law_1121 : decode cL_law 1121 = .ok (.invokevirtual 159, 3) := by decide +kernel
theorem dL_law_1124 : decode cL_law 1124 = .ok (.if_icmp .eq 520, 3) := by decide +kernel
theorem dL_law_1127 : decode cL_law 1127 = .ok (.iconst 0, 1) := by decide +kernel
theorem dL_law_1128 : decode cL_law 1128 = .ok (.ireturn, 1) := by decide +kernel
theorem dL_law_1129 : decode cL_law 1129 = .ok (.aload_n 1, 1) := by decide +kernel
theorem dL_law_1130 : decode cL_law 1130 = .ok (.aload_n 0, 1) := by decide +kernel
theorem dL_law_1131 : decode cL_law 1131 = .ok (.iload 5, 2) := by decide +kernel
theorem dL_law_1133 : decode cL_law 1133 = .ok (.iconst 1, 1) := by decide +kernel
theorem dL_law_1134 : decode cL_law 1134 = .ok (.iadd, 1) := by decide +kernel
theorem dL_law_1135 : decode cL_law 1135 = .ok (.iaload, 1) := by decide +kernel
theorem dL_law_1136 : decode cL_law 1136 = .ok (.aload_n 3, 1) := by decide +kernel
theorem dL_law_1137 : decode cL_law 1137 = .ok (.invokestatic 160, 3) := by decide +kernel
theorem dL_law_1140 : decode cL_law 1140 = .ok (.istore 6, 2) := by decide +kernel
theorem dL_law_1142 : decode cL_law 1142 = .ok (.aload_n 2, 1) := by decide +kernel
theorem dL_law_1143 : decode cL_law 1143 = .ok (.aload_n 0, 1) := by decide +kernel
theorem dL_law_1144 : decode cL_law 1144 = .ok (.iload 5, 2) := by decide +kernel
theorem dL_law_1146 : decode cL_law 1146 = .ok (.iconst 1, 1) := by decide +kernel
theorem dL_law_1147 : decode cL_law 1147 = .ok (.iadd, 1) := by decide +kernel
theorem dL_law_1148 : decode cL_law 1148 = .ok (.iaload, 1) := by decide +kernel
theorem dL_law_1149 : decode cL_law 1149 = .ok (.invokevirtual 162, 3) := by decide +kernel
theorem dL_law_1152 : decode cL_law 1152 = .ok (.istore 7, 2) := by decide +kernel
theorem dL_law_1154 : decode cL_law 1154 = .ok (.aload_n 2, 1) := by decide +kernel
theorem dL_law_1155 : decode cL_law 1155 = .ok (.invokevirtual 106, 3) := by decide +kernel
theorem dL_law_1158 : decode cL_law 1158 = .ok (.iload 6, 2) := by decide +kernel
theorem dL_law_1160 : decode cL_law 1160 = .ok (.if_icmp .eq 5, 3) := by decide +kernel
theorem dL_law_1163 : decode cL_law 1163 = .ok (.iconst 0, 1) := by decide +kernel
theorem dL_law_1164 : decode cL_law 1164 = .ok (.ireturn, 1) := by decide +kernel
theorem dL_law_1165 : decode cL_law 1165 = .ok (.iload 6, 2) := by decide +kernel
theorem dL_law_1167 : decode cL_law 1167 = .ok (.ifCond .ne 15, 3) := by decide +kernel
theorem dL_law_1170 : decode cL_law 1170 = .ok (.aload_n 3, 1) := by decide +kernel
theorem dL_law_1171 : decode cL_law 1171 = .ok (.iconst 0, 1) := by decide +kernel
theorem dL_law_1172 : decode cL_law 1172 = .ok (.laload, 1) := by decide +kernel
theorem dL_law_1173 : decode cL_law 1173 = .ok (.iload 7, 2) := by decide +kernel
theorem dL_law_1175 : decode cL_law 1175 = .ok (.i2l, 1) := by decide +kernel
theorem dL_law_1176 : decode cL_law 1176 = .ok (.lcmp, 1) := by decide +kernel
theorem dL_law_1177 : decode cL_law 1177 = .ok (.ifCond .eq 5, 3) := by decide +kernel
theorem dL_law_1180 : decode cL_law 1180 = .ok (.iconst 0, 1) := by decide +kernel
theorem dL_law_1181 : decode cL_law 1181 = .ok (.ireturn, 1) := by decide +kernel
theorem dL_law_1182 : decode cL_law 1182 = .ok (.goto 462, 3) := by decide +kernel
theorem dL_law_1185 : decode cL_law 1185 = .ok (.aload_n 1, 1) := by decide +kernel
theorem dL_law_1186 : decode cL_law 1186 = .ok (.invokevirtual 163, 3) := by decide +kernel
theorem dL_law_1189 : decode cL_law 1189 = .ok (.aload_n 2, 1) := by decide +kernel
theorem dL_law_1190 : decode cL_law 1190 = .ok (.invokevirtual 166, 3) := by decide +kernel
theorem dL_law_1193 : decode cL_law 1193 = .ok (.if_icmp .eq 451, 3) := by decide +kernel
theorem dL_law_1196 : decode cL_law 1196 = .ok (.iconst 0, 1) := by decide +kernel
theorem dL_law_1197 : decode cL_law 1197 = .ok (.ireturn, 1) := by decide +kernel
theorem dL_law_1198 : decode cL_law 1198 = .ok (.aload_n 1, 1) := by decide +kernel
theorem dL_law_1199 : decode cL_law 1199 = .ok (.aload_n 0, 1) := by decide +kernel
theorem dL_law_1200 : decode cL_law 1200 = .ok (.iload 5, 2) := by decide +kernel
theorem dL_law_1202 : decode cL_law 1202 = .ok (.iconst 1, 1) := by decide +kernel
theorem dL_law_1203 : decode cL_law 1203 = .ok (.iadd, 1) := by decide +kernel
theorem dL_law_1204 : decode cL_law 1204 = .ok (.iaload, 1) := by decide +kernel
theorem dL_law_1205 : decode cL_law 1205 = .ok (.aload_n 3, 1) := by decide +kernel
theorem dL_law_1206 : decode cL_law 1206 = .ok (.invokestatic 167, 3) := by decide +kernel
theorem dL_law_1209 : decode cL_law 1209 = .ok (.istore 6, 2) := by decide +kernel
theorem dL_law_1211 : decode cL_law 1211 = .ok (.aload_n 2, 1) := by decide +kernel
theorem dL_law_1212 : decode cL_law 1212 = .ok (.aload_n 0, 1) := by decide +kernel
theorem dL_law_1213 : decode cL_law 1213 = .ok (.iload 5, 2) := by decide +kernel
theorem dL_law_1215 : decode cL_law 1215 = .ok (.iconst 1, 1) := by decide +kernel
theorem dL_law_1216 : decode cL_law 1216 = .ok (.iadd, 1) := by decide +kernel
theorem dL_law_1217 : decode cL_law 1217 = .ok (.iaload, 1) := by decide +kernel
theorem dL_law_1218 : decode cL_law 1218 = .ok (.invokevirtual 169, 3) := by decide +kernel
theorem dL_law_1221 : decode cL_law 1221 = .ok (.istore 7, 2) := by decide +kernel
theorem dL_law_1223 : decode cL_law 1223 = .ok (.aload_n 2, 1) := by decide +kernel
theorem dL_law_1224 : decode cL_law 1224 = .ok (.invokevirtual 106, 3) := by decide +kernel
theorem dL_law_1227 : decode cL_law 1227 = .ok (.iload 6, 2) := by decide +kernel
theorem dL_law_1229 : decode cL_law 1229 = .ok (.if_icmp .eq 5, 3) := by decide +kernel
theorem dL_law_1232 : decode cL_law 1232 = .ok (.iconst 0, 1) := by decide +kernel
theorem dL_law_1233 : decode cL_law 1233 = .ok (.ireturn, 1) := by decide +kernel
theorem dL_law_1234 : decode cL_law 1234 = .ok (.iload 6, 2) := by decide +kernel
theorem dL_law_1236 : decode cL_law 1236 = .ok (.ifCond .ne 15, 3) := by decide +kernel
theorem dL_law_1239 : decode cL_law 1239 = .ok (.aload_n 3, 1) := by decide +kernel
theorem dL_law_1240 : decode cL_law 1240 = .ok (.iconst 0, 1) := by decide +kernel
theorem dL_law_1241 : decode cL_law 1241 = .ok (.laload, 1) := by decide +kernel
theorem dL_law_1242 : decode cL_law 1242 = .ok (.iload 7, 2) := by decide +kernel
theorem dL_law_1244 : decode cL_law 1244 = .ok (.i2l, 1) := by decide +kernel
theorem dL_law_1245 : decode cL_law 1245 = .ok (.lcmp, 1) := by decide +kernel
theorem dL_law_1246 : decode cL_law 1246 = .ok (.ifCond .eq 5, 3) := by decide +kernel
theorem dL_law_1249 : decode cL_law 1249 = .ok (.iconst 0, 1) := by decide +kernel
theorem dL_law_1250 : decode cL_law 1250 = .ok (.ireturn, 1) := by decide +kernel
theorem dL_law_1251 : decode cL_law 1251 = .ok (.goto 393, 3) := by decide +kernel
theorem dL_law_1254 : decode cL_law 1254 = .ok (.aload_n 1, 1) := by decide +kernel
theorem dL_law_1255 : decode cL_law 1255 = .ok (.aload_n 0, 1) := by decide +kernel
theorem dL_law_1256 : decode cL_law 1256 = .ok (.iload 5, 2) := by decide +kernel
theorem dL_law_1258 : decode cL_law 1258 = .ok (.iconst 1, 1) := by decide +kernel
theorem dL_law_1259 : decode cL_law 1259 = .ok (.iadd, 1) := by decide +kernel
theorem dL_law_1260 : decode cL_law 1260 = .ok (.iaload, 1) := by decide +kernel
theorem dL_law_1261 : decode cL_law 1261 = .ok (.aload_n 3, 1) := by decide +kernel
theorem dL_law_1262 : decode cL_law 1262 = .ok (.invokestatic 170, 3) := by decide +kernel
theorem dL_law_1265 : decode cL_law 1265 = .ok (.istore 6, 2) := by decide +kernel
theorem dL_law_1267 : decode cL_law 1267 = .ok (.aload_n 2, 1) := by decide +kernel
theorem dL_law_1268 : decode cL_law 1268 = .ok (.aload_n 0, 1) := by decide +kernel
theorem dL_law_1269 : decode cL_law 1269 = .ok (.iload 5, 2) := by decide +kernel
theorem dL_law_1271 : decode cL_law 1271 = .ok (.iconst 1, 1) := by decide +kernel
theorem dL_law_1272 : decode cL_law 1272 = .ok (.iadd, 1) := by decide +kernel
theorem dL_law_1273 : decode cL_law 1273 = .ok (.iaload, 1) := by decide +kernel
theorem dL_law_1274 : decode cL_law 1274 = .ok (.invokevirtual 172, 3) := by decide +kernel
theorem dL_law_1277 : decode cL_law 1277 = .ok (.istore 7, 2) := by decide +kernel
theorem dL_law_1279 : decode cL_law 1279 = .ok (.aload_n 2, 1) := by decide +kernel
theorem dL_law_1280 : decode cL_law 1280 = .ok (.invokevirtual 106, 3) := by decide +kernel
theorem dL_law_1283 : decode cL_law 1283 = .ok (.iload 6, 2) := by decide +kernel
theorem dL_law_1285 : decode cL_law 1285 = .ok (.if_icmp .eq 5, 3) := by decide +kernel
theorem dL_law_1288 : decode cL_law 1288 = .ok (.iconst 0, 1) := by decide +kernel
theorem dL_law_1289 : decode cL_law 1289 = .ok (.ireturn, 1) := by decide +kernel
theorem dL_law_1290 : decode cL_law 1290 = .ok (.iload 6, 2) := by decide +kernel
theorem dL_law_1292 : decode cL_law 1292 = .ok (.ifCond .ne 15, 3) := by decide +kernel
theorem dL_law_1295 : decode cL_law 1295 = .ok (.aload_n 3, 1) := by decide +kernel
theorem dL_law_1296 : decode cL_law 1296 = .ok (.iconst 0, 1) := by decide +kernel
theorem dL_law_1297 : decode cL_law 1297 = .ok (.laload, 1) := by decide +kernel
theorem dL_law_1298 : decode cL_law 1298 = .ok (.iload 7, 2) := by decide +kernel
theorem dL_law_1300 : decode cL_law 1300 = .ok (.i2l, 1) := by decide +kernel
theorem dL_law_1301 : decode cL_law 1301 = .ok (.lcmp, 1) := by decide +kernel
theorem dL_law_1302 : decode cL_law 1302 = .ok (.ifCond .eq 5, 3) := by decide +kernel
theorem dL_law_1305 : decode cL_law 1305 = .ok (.iconst 0, 1) := by decide +kernel
theorem dL_law_1306 : decode cL_law 1306 = .ok (.ireturn, 1) := by decide +kernel
theorem dL_law_1307 : decode cL_law 1307 = .ok (.goto 337, 3) := by decide +kernel
theorem dL_law_1310 : decode cL_law 1310 = .ok (.aload_n 1, 1) := by decide +kernel
theorem dL_law_1311 : decode cL_law 1311 = .ok (.invokevirtual 173, 3) := by decide +kernel
theorem dL_law_1314 : decode cL_law 1314 = .ok (.aload_n 2, 1) := by decide +kernel
theorem dL_law_1315 : decode cL_law 1315 = .ok (.invokevirtual 176, 3) := by decide +kernel
theorem dL_law_1318 : decode cL_law 1318 = .ok (.if_icmp .eq 326, 3) := by decide +kernel
theorem dL_law_1321 : decode cL_law 1321 = .ok (.iconst 0, 1) := by decide +kernel
theorem dL_law_1322 : decode cL_law 1322 = .ok (.ireturn, 1) := by decide +kernel
theorem dL_law_1323 : decode cL_law 1323 = .ok (.aload_n 1, 1) := by decide +kernel
theorem dL_law_1324 : decode cL_law 1324 = .ok (.invokevirtual 177, 3) := by decide +kernel
theorem dL_law_1327 : decode cL_law 1327 = .ok (.aload_n 2, 1) := by decide +kernel
theorem dL_law_1328 : decode cL_law 1328 = .ok (.invokevirtual 180, 3) := by decide +kernel
theorem dL_law_1331 : decode cL_law 1331 = .ok (.if_icmp .eq 313, 3) := by decide +kernel
theorem dL_law_1334 : decode cL_law 1334 = .ok (.iconst 0, 1) := by decide +kernel
theorem dL_law_1335 : decode cL_law 1335 = .ok (.ireturn, 1) := by decide +kernel
theorem dL_law_1336 : decode cL_law 1336 = .ok (.aload_n 1, 1) := by decide +kernel
theorem dL_law_1337 : decode cL_law 1337 = .ok (.invokevirtual 181, 3) := by decide +kernel
theorem dL_law_1340 : decode cL_law 1340 = .ok (.aload_n 2, 1) := by decide +kernel
theorem dL_law_1341 : decode cL_law 1341 = .ok (.invokevirtual 184, 3) := by decide +kernel
theorem dL_law_1344 : decode cL_law 1344 = .ok (.if_icmp .eq 300, 3) := by decide +kernel
theorem dL_law_1347 : decode cL_law 1347 = .ok (.iconst 0, 1) := by decide +kernel
theorem dL_law_1348 : decode cL_law 1348 = .ok (.ireturn, 1) := by decide +kernel
theorem dL_law_1349 : decode cL_law 1349 = .ok (.aload_n 1, 1) := by decide +kernel
theorem dL_law_1350 : decode cL_law 1350 = .ok (.aload_n 3, 1) := by decide +kernel
theorem dL_law_1351 : decode cL_law 1351 = .ok (.invokestatic 185, 3) := by decide +kernel
theorem dL_law_1354 : decode cL_law 1354 = .ok (.istore 6, 2) := by decide +kernel
theorem dL_law_1356 : decode cL_law 1356 = .ok (.aload_n 2, 1) := by decide +kernel
theorem dL_law_1357 : decode cL_law 1357 = .ok (.invokevirtual 188, 3) := by decide +kernel
theorem dL_law_1360 : decode cL_law 1360 = .ok (.istore 7, 2) := by decide +kernel
theorem dL_law_1362 : decode cL_law 1362 = .ok (.aload_n 2, 1) := by decide +kernel
theorem dL_law_1363 : decode cL_law 1363 = .ok (.invokevirtual 106, 3) := by decide +kernel
theorem dL_law_1366 : decode cL_law 1366 = .ok (.iload 6, 2) := by decide +kernel
theorem dL_law_1368 : decode cL_law 1368 = .ok (.if_icmp .eq 5, 3) := by decide +kernel
theorem dL_law_1371 : decode cL_law 1371 = .ok (.iconst 0, 1) := by decide +kernel
theorem dL_law_1372 : decode cL_law 1372 = .ok (.ireturn, 1) := by decide +kernel
theorem dL_law_1373 : decode cL_law 1373 = .ok (.iload 6, 2) := by decide +kernel
theorem dL_law_1375 : decode cL_law 1375 = .ok (.ifCond .ne 15, 3) := by decide +kernel
theorem dL_law_1378 : decode cL_law 1378 = .ok (.aload_n 3, 1) := by decide +kernel
theorem dL_law_1379 : decode cL_law 1379 = .ok (.iconst 0, 1) := by decide +kernel
theorem dL_law_1380 : decode cL_law 1380 = .ok (.laload, 1) := by decide +kernel
theorem dL_law_1381 : decode cL_law 1381 = .ok (.iload 7, 2) := by decide +kernel
theorem dL_law_1383 : decode cL_law 1383 = .ok (.i2l, 1) := by decide +kernel
theorem dL_law_1384 : decode cL_law 1384 = .ok (.lcmp, 1) := by decide +kernel
theorem dL_law_1385 : decode cL_law 1385 = .ok (.ifCond .eq 5, 3) := by decide +kernel
theorem dL_law_1388 : decode cL_law 1388 = .ok (.iconst 0, 1) := by decide +kernel
theorem dL_law_1389 : decode cL_law 1389 = .ok (.ireturn, 1) := by decide +kernel
theorem dL_law_1390 : decode cL_law 1390 = .ok (.goto 254, 3) := by decide +kernel
theorem dL_law_1393 : decode cL_law 1393 = .ok (.aload_n 1, 1) := by decide +kernel
theorem dL_law_1394 : decode cL_law 1394 = .ok (.invokevirtual 189, 3) := by decide +kernel
theorem dL_law_1397 : decode cL_law 1397 = .ok (.aload_n 2, 1) := by decide +kernel
theorem dL_law_1398 : decode cL_law 1398 = .ok (.invokevirtual 193, 3) := by decide +kernel
theorem dL_law_1401 : decode cL_law 1401 = .ok (.lcmp, 1) := by decide +kernel
theorem dL_law_1402 : decode cL_law 1402 = .ok (.ifCond .eq 242, 3) := by decide +kernel
theorem dL_law_1405 : decode cL_law 1405 = .ok (.iconst 0, 1) := by decide +kernel
theorem dL_law_1406 : decode cL_law 1406 = .ok (.ireturn, 1) := by decide +kernel
theorem dL_law_1407 : decode cL_law 1407 = .ok (.aload_n 1, 1) := by decide +kernel
theorem dL_law_1408 : decode cL_law 1408 = .ok (.invokevirtual 194, 3) := by decide +kernel
theorem dL_law_1411 : decode cL_law 1411 = .ok (.aload_n 2, 1) := by decide +kernel
theorem dL_law_1412 : decode cL_law 1412 = .ok (.invokevirtual 197, 3) := by decide +kernel
theorem dL_law_1415 : decode cL_law 1415 = .ok (.lcmp, 1) := by decide +kernel
theorem dL_law_1416 : decode cL_law 1416 = .ok (.ifCond .eq 228, 3) := by decide +kernel
theorem dL_law_1419 : decode cL_law 1419 = .ok (.iconst 0, 1) := by decide +kernel
theorem dL_law_1420 : decode cL_law 1420 = .ok (.ireturn, 1) := by decide +kernel
theorem dL_law_1421 : decode cL_law 1421 = .ok (.aload_n 1, 1) := by decide +kernel
theorem dL_law_1422 : decode cL_law 1422 = .ok (.aload_n 0, 1) := by decide +kernel
theorem dL_law_1423 : decode cL_law 1423 = .ok (.iload 5, 2) := by decide +kernel
theorem dL_law_1425 : decode cL_law 1425 = .ok (.iconst 1, 1) := by decide +kernel
theorem dL_law_1426 : decode cL_law 1426 = .ok (.iadd, 1) := by decide +kernel
theorem dL_law_1427 : decode cL_law 1427 = .ok (.iaload, 1) := by decide +kernel
theorem dL_law_1428 : decode cL_law 1428 = .ok (.i2c, 1) := by decide +kernel
theorem dL_law_1429 : decode cL_law 1429 = .ok (.aload_n 3, 1) := by decide +kernel
theorem dL_law_1430 : decode cL_law 1430 = .ok (.invokestatic 198, 3) := by decide +kernel
theorem dL_law_1433 : decode cL_law 1433 = .ok (.istore 6, 2) := by decide +kernel
theorem dL_law_1435 : decode cL_law 1435 = .ok (.aload_n 2, 1) := by decide +kernel
theorem dL_law_1436 : decode cL_law 1436 = .ok (.aload_n 0, 1) := by decide +kernel
theorem dL_law_1437 : decode cL_law 1437 = .ok (.iload 5, 2) := by decide +kernel
theorem dL_law_1439 : decode cL_law 1439 = .ok (.iconst 1, 1) := by decide +kernel
theorem dL_law_1440 : decode cL_law 1440 = .ok (.iadd, 1) := by decide +kernel
theorem dL_law_1441 : decode cL_law 1441 = .ok (.iaload, 1) := by decide +kernel
theorem dL_law_1442 : decode cL_law 1442 = .ok (.i2c, 1) := by decide +kernel
theorem dL_law_1443 : decode cL_law 1443 = .ok (.invokevirtual 201, 3) := by decide +kernel
theorem dL_law_1446 : decode cL_law 1446 = .ok (.istore 7, 2) := by decide +kernel
theorem dL_law_1448 : decode cL_law 1448 = .ok (.aload_n 2, 1) := by decide +kernel
theorem dL_law_1449 : decode cL_law 1449 = .ok (.invokevirtual 106, 3) := by decide +kernel
theorem dL_law_1452 : decode cL_law 1452 = .ok (.iload 6, 2) := by decide +kernel
theorem dL_law_1454 : decode cL_law 1454 = .ok (.if_icmp .eq 5, 3) := by decide +kernel
theorem dL_law_1457 : decode cL_law 1457 = .ok (.iconst 0, 1) := by decide +kernel
theorem dL_law_1458 : decode cL_law 1458 = .ok (.ireturn, 1) := by decide +kernel
theorem dL_law_1459 : decode cL_law 1459 = .ok (.iload 6, 2) := by decide +kernel
theorem dL_law_1461 : decode cL_law 1461 = .ok (.ifCond .ne 15, 3) := by decide +kernel
theorem dL_law_1464 : decode cL_law 1464 = .ok (.aload_n 3, 1) := by decide +kernel
theorem dL_law_1465 : decode cL_law 1465 = .ok (.iconst 0, 1) := by decide +kernel
theorem dL_law_1466 : decode cL_law 1466 = .ok (.laload, 1) := by decide +kernel
theorem dL_law_1467 : decode cL_law 1467 = .ok (.iload 7, 2) := by decide +kernel
theorem dL_law_1469 : decode cL_law 1469 = .ok (.i2l, 1) := by decide +kernel
theorem dL_law_1470 : decode cL_law 1470 = .ok (.lcmp, 1) := by decide +kernel
theorem dL_law_1471 : decode cL_law 1471 = .ok (.ifCond .eq 5, 3) := by decide +kernel
theorem dL_law_1474 : decode cL_law 1474 = .ok (.iconst 0, 1) := by decide +kernel
theorem dL_law_1475 : decode cL_law 1475 = .ok (.ireturn, 1) := by decide +kernel
theorem dL_law_1476 : decode cL_law 1476 = .ok (.goto 168, 3) := by decide +kernel
theorem dL_law_1479 : decode cL_law 1479 = .ok (.aload_n 1, 1) := by decide +kernel
theorem dL_law_1480 : decode cL_law 1480 = .ok (.aload_n 3, 1) := by decide +kernel
theorem dL_law_1481 : decode cL_law 1481 = .ok (.invokestatic 202, 3) := by decide +kernel
theorem dL_law_1484 : decode cL_law 1484 = .ok (.istore 6, 2) := by decide +kernel
theorem dL_law_1486 : decode cL_law 1486 = .ok (.aload_n 2, 1) := by decide +kernel
theorem dL_law_1487 : decode cL_law 1487 = .ok (.invokevirtual 204, 3) := by decide +kernel
theorem dL_law_1490 : decode cL_law 1490 = .ok (.istore 7, 2) := by decide +kernel
theorem dL_law_1492 : decode cL_law 1492 = .ok (.aload_n 2, 1) := by decide +kernel
theorem dL_law_1493 : decode cL_law 1493 = .ok (.invokevirtual 106, 3) := by decide +kernel
theorem dL_law_1496 : decode cL_law 1496 = .ok (.iload 6, 2) := by decide +kernel
theorem dL_law_1498 : decode cL_law 1498 = .ok (.if_icmp .eq 5, 3) := by decide +kernel
theorem dL_law_1501 : decode cL_law 1501 = .ok (.iconst 0, 1) := by decide +kernel
theorem dL_law_1502 : decode cL_law 1502 = .ok (.ireturn, 1) := by decide +kernel
theorem dL_law_1503 : decode cL_law 1503 = .ok (.iload 6, 2) := by decide +kernel
theorem dL_law_1505 : decode cL_law 1505 = .ok (.ifCond .ne 15, 3) := by decide +kernel
theorem dL_law_1508 : decode cL_law 1508 = .ok (.aload_n 3, 1) := by decide +kernel
theorem dL_law_1509 : decode cL_law 1509 = .ok (.iconst 0, 1) := by decide +kernel
theorem dL_law_1510 : decode cL_law 1510 = .ok (.laload, 1) := by decide +kernel
theorem dL_law_1511 : decode cL_law 1511 = .ok (.iload 7, 2) := by decide +kernel
theorem dL_law_1513 : decode cL_law 1513 = .ok (.i2l, 1) := by decide +kernel
theorem dL_law_1514 : decode cL_law 1514 = .ok (.lcmp, 1) := by decide +kernel
theorem dL_law_1515 : decode cL_law 1515 = .ok (.ifCond .eq 5, 3) := by decide +kernel
theorem dL_law_1518 : decode cL_law 1518 = .ok (.iconst 0, 1) := by decide +kernel
theorem dL_law_1519 : decode cL_law 1519 = .ok (.ireturn, 1) := by decide +kernel
theorem dL_law_1520 : decode cL_law 1520 = .ok (.goto 124, 3) := by decide +kernel
theorem dL_law_1523 : decode cL_law 1523 = .ok (.aload_n 1, 1) := by decide +kernel
theorem dL_law_1524 : decode cL_law 1524 = .ok (.invokevirtual 205, 3) := by decide +kernel
theorem dL_law_1527 : decode cL_law 1527 = .ok (.aload_n 2, 1) := by decide +kernel
theorem dL_law_1528 : decode cL_law 1528 = .ok (.invokevirtual 209, 3) := by decide +kernel
theorem dL_law_1531 : decode cL_law 1531 = .ok (.if_icmp .eq 113, 3) := by decide +kernel
theorem dL_law_1534 : decode cL_law 1534 = .ok (.iconst 0, 1) := by decide +kernel
theorem dL_law_1535 : decode cL_law 1535 = .ok (.ireturn, 1) := by decide +kernel
theorem dL_law_1536 : decode cL_law 1536 = .ok (.aload_n 1, 1) := by decide +kernel
theorem dL_law_1537 : decode cL_law 1537 = .ok (.invokevirtual 210, 3) := by decide +kernel
theorem dL_law_1540 : decode cL_law 1540 = .ok (.f2d, 1) := by decide +kernel
theorem dL_law_1541 : decode cL_law 1541 = .ok (.dstore 6, 2) := by decide +kernel
theorem dL_law_1543 : decode cL_law 1543 = .ok (.aload_n 2, 1) := by decide +kernel
theorem dL_law_1544 : decode cL_law 1544 = .ok (.invokevirtual 214, 3) := by decide +kernel
theorem dL_law_1547 : decode cL_law 1547 = .ok (.f2d, 1) := by decide +kernel
theorem dL_law_1548 : decode cL_law 1548 = .ok (.dstore 8, 2) := by decide +kernel
theorem dL_law_1550 : decode cL_law 1550 = .ok (.dload 6, 2) := by decide +kernel
theorem dL_law_1552 : decode cL_law 1552 = .ok (.dload 8, 2) := by decide +kernel
theorem dL_law_1554 : decode cL_law 1554 = .ok (.dcmp .l, 1) := by decide +kernel
theorem dL_law_1555 : decode cL_law 1555 = .ok (.ifCond .eq 21, 3) := by decide +kernel
theorem dL_law_1558 : decode cL_law 1558 = .ok (.dload 6, 2) := by decide +kernel
theorem dL_law_1560 : decode cL_law 1560 = .ok (.dload 6, 2) := by decide +kernel
theorem dL_law_1562 : decode cL_law 1562 = .ok (.dcmp .l, 1) := by decide +kernel
theorem dL_law_1563 : decode cL_law 1563 = .ok (.ifCond .eq 11, 3) := by decide +kernel
theorem dL_law_1566 : decode cL_law 1566 = .ok (.dload 8, 2) := by decide +kernel
theorem dL_law_1568 : decode cL_law 1568 = .ok (.dload 8, 2) := by decide +kernel
theorem dL_law_1570 : decode cL_law 1570 = .ok (.dcmp .l, 1) := by decide +kernel
theorem dL_law_1571 : decode cL_law 1571 = .ok (.ifCond .ne 5, 3) := by decide +kernel
theorem dL_law_1574 : decode cL_law 1574 = .ok (.iconst 0, 1) := by decide +kernel
theorem dL_law_1575 : decode cL_law 1575 = .ok (.ireturn, 1) := by decide +kernel
theorem dL_law_1576 : decode cL_law 1576 = .ok (.goto 68, 3) := by decide +kernel
theorem dL_law_1579 : decode cL_law 1579 = .ok (.aload_n 1, 1) := by decide +kernel
theorem dL_law_1580 : decode cL_law 1580 = .ok (.aload 4, 2) := by decide +kernel
theorem dL_law_1582 : decode cL_law 1582 = .ok (.invokestatic 215, 3) := by decide +kernel
theorem dL_law_1585 : decode cL_law 1585 = .ok (.istore 6, 2) := by decide +kernel
theorem dL_law_1587 : decode cL_law 1587 = .ok (.aload_n 2, 1) := by decide +kernel
theorem dL_law_1588 : decode cL_law 1588 = .ok (.invokevirtual 218, 3) := by decide +kernel
theorem dL_law_1591 : decode cL_law 1591 = .ok (.dstore 7, 2) := by decide +kernel
theorem dL_law_1593 : decode cL_law 1593 = .ok (.aload_n 2, 1) := by decide +kernel
theorem dL_law_1594 : decode cL_law 1594 = .ok (.invokevirtual 106, 3) := by decide +kernel
theorem dL_law_1597 : decode cL_law 1597 = .ok (.iload 6, 2) := by decide +kernel
theorem dL_law_1599 : decode cL_law 1599 = .ok (.if_icmp .eq 5, 3) := by decide +kernel
theorem dL_law_1602 : decode cL_law 1602 = .ok (.iconst 0, 1) := by decide +kernel
theorem dL_law_1603 : decode cL_law 1603 = .ok (.ireturn, 1) := by decide +kernel
theorem dL_law_1604 : decode cL_law 1604 = .ok (.iload 6, 2) := by decide +kernel
theorem dL_law_1606 : decode cL_law 1606 = .ok (.ifCond .ne 35, 3) := by decide +kernel
theorem dL_law_1609 : decode cL_law 1609 = .ok (.aload 4, 2) := by decide +kernel
theorem dL_law_1611 : decode cL_law 1611 = .ok (.iconst 0, 1) := by decide +kernel
theorem dL_law_1612 : decode cL_law 1612 = .ok (.daload, 1) := by decide +kernel
theorem dL_law_1613 : decode cL_law 1613 = .ok (.dload 7, 2) := by decide +kernel
theorem dL_law_1615 : decode cL_law 1615 = .ok (.dcmp .l, 1) := by decide +kernel
theorem dL_law_1616 : decode cL_law 1616 = .ok (.ifCond .eq 25, 3) := by decide +kernel
theorem dL_law_1619 : decode cL_law 1619 = .ok (.aload 4, 2) := by decide +kernel
theorem dL_law_1621 : decode cL_law 1621 = .ok (.iconst 0, 1) := by decide +kernel
theorem dL_law_1622 : decode cL_law 1622 = .ok (.daload, 1) := by decide +kernel
theorem dL_law_1623 : decode cL_law 1623 = .ok (.aload 4, 2) := by decide +kernel
theorem dL_law_1625 : decode cL_law 1625 = .ok (.iconst 0, 1) := by decide +kernel
theorem dL_law_1626 : decode cL_law 1626 = .ok (.daload, 1) := by decide +kernel
theorem dL_law_1627 : decode cL_law 1627 = .ok (.dcmp .l, 1) := by decide +kernel
theorem dL_law_1628 : decode cL_law 1628 = .ok (.ifCond .eq 11, 3) := by decide +kernel
theorem dL_law_1631 : decode cL_law 1631 = .ok (.dload 7, 2) := by decide +kernel
theorem dL_law_1633 : decode cL_law 1633 = .ok (.dload 7, 2) := by decide +kernel
theorem dL_law_1635 : decode cL_law 1635 = .ok (.dcmp .l, 1) := by decide +kernel
theorem dL_law_1636 : decode cL_law 1636 = .ok (.ifCond .ne 5, 3) := by decide +kernel
theorem dL_law_1639 : decode cL_law 1639 = .ok (.iconst 0, 1) := by decide +kernel
theorem dL_law_1640 : decode cL_law 1640 = .ok (.ireturn, 1) := by decide +kernel
theorem dL_law_1641 : decode cL_law 1641 = .ok (.goto 3, 3) := by decide +kernel
theorem dL_law_1644 : decode cL_law 1644 = .ok (.iinc 5 3, 3) := by decide +kernel
theorem dL_law_1647 : decode cL_law 1647 = .ok (.goto (-1619), 3) := by decide +kernel
theorem dL_law_1650 : decode cL_law 1650 = .ok (.iconst 1, 1) := by decide +kernel
theorem dL_law_1651 : decode cL_law 1651 = .ok (.ireturn, 1) := by decide +kernel
abbrev vwCl : List vw_C := [(RJ0, TJ0, 2), (RJ6, TJ6, 1), (RJx00060, TJx00060, 6), (RJx35411, TJx35411, 4), (RJx4a65c, TJx4a65c, 3), (RX0, TX0, 7), (RX1, TX1, 4), (RX2, TX2, 1), (RX3, TX3, 4), (RX4, TX4, 6), (RX5, TX5, 7), (RX6, TX6, 10), (RX7, TX7, 9), (RX8, TX8, 1), (RX9, TX9, 9), (RX10, TX10, 5), (RX11, TX11, 3), (RX12, TX12, 2), (RX13, TX13, 23)]
end
section
/-! AN ABSTRACT MACHINE, evaluated by the kernel; the walk of a method follows it (its soundness: part 40).
A value is (tag, number): 0 an int (below 2^32), 1 null, 2 a cell of the world (its place), 3 a thing given at the start, 4 an unknown int, 5 a long, 6 a double's bits, 7 a float's bits.
A cell is (0, class, fields) or (1, type, components). -/
abbrev eV : Type := Nat × Nat
abbrev eC : Type := Nat × Nat × List eV
abbrev eH : Type := List eC
abbrev eL : Type := List (Nat × eV)
abbrev eO : Type := Nat × Nat × Nat × Nat × Nat
/-- what is known of the unknown ints: bounds (moved by 2^31), and results of operations (operation, unknown, number, result) -/
abbrev eG : Type := List (Nat × Nat) × List (Nat × Nat × Nat × Nat)
/-- a step's end: pc, locals, stack, heap, new cells, new slots, frames and words that it needs -/
abbrev eS : Type := Nat × eL × List eV × eH × Nat × Nat × Nat × Nat
def e_get {α : Type} : List α → Nat → Option α
  | [], _ => none
  | a :: _, 0 => some a
  | _ :: t, n + 1 => e_get t n
def e_b (n : Nat) : Nat := (n + 2147483648) % 4294967296
def e_B (n : Nat) : Nat := (n + 9223372036854775808) % 18446744073709551616
def e_rng (G : eG) (v : eV) : Option (Nat × Nat) := match v with
  | (0, n) => some (e_b n, e_b n)
  | (4, k) => e_get G.1 k
  | _ => none
def e_lt (G : eG) (a b : eV) : Option Bool := match e_rng G a, e_rng G b with
  | some (la, ha), some (lb, hb) => bif Nat.blt ha lb then some true else bif Nat.ble hb la then some false else none
  | _, _ => none
def e_eq (G : eG) (a b : eV) : Option Bool := match e_rng G a, e_rng G b with
  | some (la, ha), some (lb, hb) => bif Nat.blt ha lb || Nat.blt hb la then some false else bif Nat.beq la ha && (Nat.beq lb hb && Nat.beq la lb) then some true else none
  | _, _ => none
def e_not : Option Bool → Option Bool
  | some b => some (bif b then false else true)
  | none => none
def e_cond (G : eG) (i : Nat) (a b : eV) : Option Bool := match i with
  | 0 => e_eq G a b
  | 1 => e_not (e_eq G a b)
  | 2 => e_lt G a b
  | 3 => e_not (e_lt G a b)
  | 4 => e_lt G b a
  | 5 => e_not (e_lt G b a)
  | _ => none
def e_fact (l : List (Nat × Nat × Nat × Nat)) (o k c : Nat) : Option Nat := match l with
  | [] => none
  | (o', k', c', r) :: t => bif Nat.beq o o' && (Nat.beq k k' && Nat.beq c c') then some r else e_fact t o k c
/-- two ints -/
def e_bin (G : eG) (i : Nat) (x y : eV) : Option eV := match x, y with
  | (0, a), (0, b) => match i with
    | 0 => some (0, (a + b) % 4294967296)
    | 1 => some (0, (a + (4294967296 - b % 4294967296)) % 4294967296)
    | 2 => some (0, a * b % 4294967296)
    | 3 => bif Nat.blt a 2147483648 && (Nat.blt 0 b && Nat.blt b 2147483648) then some (0, a / b) else none
    | 4 => bif Nat.blt a 2147483648 && (Nat.blt 0 b && Nat.blt b 2147483648) then some (0, a % b) else none
    | 5 => some (0, Nat.land a b)
    | 6 => bif Nat.blt a 2147483648 && Nat.blt b 31 then some (0, a / 2 ^ b) else none
    | _ => none
  | (0, 0), (4, _) => match i with
    | 2 => some (0, 0)
    | _ => none
  | (4, k), (0, b) => bif Nat.ble i 6 then (match e_fact G.2 i k b with
    | some r => some (4, r)
    | none => none) else none
  | _, _ => none
/-- one int; 7: its char, 8: its byte, 9: its negative -/
def e_un (G : eG) (i : Nat) (x : eV) : Option eV := match x with
  | (0, a) => match i with
    | 7 => some (0, a % 65536)
    | 8 => bif Nat.blt (a % 256) 128 then some (0, a % 256) else some (0, 4294967040 + a % 256)
    | 9 => some (0, (4294967296 - a % 4294967296) % 4294967296)
    | _ => none
  | (4, k) => bif Nat.ble 7 i then (match e_fact G.2 i k 0 with
    | some r => some (4, r)
    | none => none) else none
  | _ => none
def e_i2l (a : Nat) : Nat := bif Nat.blt (a % 4294967296) 2147483648 then a % 4294967296 else a % 4294967296 + 18446744069414584320
def e_lbin (i a b : Nat) : Option eV := match i with
  | 0 => some (5, (a + b) % 18446744073709551616)
  | 1 => some (5, (a + (18446744073709551616 - b % 18446744073709551616)) % 18446744073709551616)
  | 2 => some (5, a * b % 18446744073709551616)
  | 3 => bif Nat.blt a 9223372036854775808 && (Nat.blt 0 b && Nat.blt b 9223372036854775808) then some (5, a / b) else none
  | 4 => some (0, bif Nat.blt (e_B a) (e_B b) then 4294967295 else bif Nat.blt (e_B b) (e_B a) then 1 else 0)
  | _ => none
def e_isI (v : eV) : Bool := Nat.beq v.1 0 || Nat.beq v.1 4
def e_isR (v : eV) : Bool := Nat.beq v.1 2 || Nat.beq v.1 3
def e_isQ (v : eV) : Bool := Nat.beq v.1 1 || e_isR v
def e_wide (v : eV) : Bool := Nat.beq v.1 5 || Nat.beq v.1 6
def e_cat : List eV → Nat
  | [] => 0
  | v :: t => (bif e_wide v then 2 else 1) + e_cat t
def e_look (ls : eL) (i : Nat) : Option eV := match ls with
  | [] => none
  | (j, v) :: t => bif Nat.beq j i then some v else e_look t i
def e_drop1 (i : Nat) : eL → eL
  | [] => []
  | (j, v) :: t => bif Nat.beq j i || (Nat.beq (j + 1) i && e_wide v) then e_drop1 i t else (j, v) :: e_drop1 i t
def e_drop2 (i : Nat) : eL → eL
  | [] => []
  | (j, v) :: t => bif Nat.beq j i || (Nat.beq j (i + 1) || (Nat.beq (j + 1) i && e_wide v)) then e_drop2 i t else (j, v) :: e_drop2 i t
/-- locals: 0 int, 1 reference, 2 long, 3 double -/
def e_kind (i : Nat) (v : eV) : Bool := match i with
  | 0 => e_isI v
  | 1 => e_isR v
  | 2 => Nat.beq v.1 5
  | 3 => Nat.beq v.1 6
  | _ => false
def e_rep {α : Type} (x : α) : Nat → List α
  | 0 => []
  | n + 1 => x :: e_rep x n
/-- a type's default: 3 long, 4 double, 6 and above references, else ints -/
def e_dflt (t : Nat) : eV := match t with
  | 3 => (5, 0)
  | 4 => (6, 0)
  | 6 => (1, 0)
  | 7 => (1, 0)
  | _ => (0, 0)
def e_tyok (t : Nat) (v : eV) : Bool := match t with
  | 3 => Nat.beq v.1 5
  | 4 => Nat.beq v.1 6
  | 6 => e_isQ v
  | 7 => e_isQ v
  | _ => e_isI v
/-- a store into a field or an array of a narrow type: it must fit -/
def e_fit (G : eG) (t : Nat) (v : eV) : Bool := match t with
  | 0 => e_isI v
  | 1 => match v with
    | (0, n) => Nat.blt n 2
    | _ => false
  | 2 => match e_rng G v with
    | some (lo, hi) => Nat.ble 2147483648 lo && Nat.blt hi 2147549184
    | none => false
  | 3 => Nat.beq v.1 5
  | 4 => Nat.beq v.1 6
  | 6 => e_isQ v
  | 7 => e_isQ v
  | _ => false
/-- n rows of int[k], from the place i on -/
def e_rows (i n : Nat) : List eV := match n with
  | 0 => []
  | n + 1 => (2, i) :: e_rows (i + 1) n
/-- two references: one thing or two (things of the world are new: never one given at the start) -/
def e_same (x y : eV) : Option Bool := match x, y with
  | (2, a), (2, b) => some (Nat.beq a b)
  | (3, a), (3, b) => bif Nat.beq a b then some true else none
  | (2, _), (3, _) => some false
  | (3, _), (2, _) => some false
  | _, _ => none
/-- a call's locals -/
def e_args : Nat → List eV → eL
  | _, [] => []
  | i, v :: t => (i, v) :: e_args (bif e_wide v then i + 2 else i + 1) t
end
section
/-! what the abstract values mean -/
/-- the given things' addresses, the unknown ints -/
abbrev eX : Type := (Nat → Nat) × (Nat → Int32)
def c_I (X : eX) (v : eV) : Int32 := match v with
  | (0, n) => nI n
  | (4, k) => X.2 k
  | _ => 0
def c_v (X : eX) (ρ : Nat → Nat) (v : eV) : Value := match v with
  | (0, n) => .int (nI n)
  | (1, _) => .null
  | (2, k) => .ref (ρ k)
  | (3, k) => .ref (X.1 k)
  | (4, k) => .int (X.2 k)
  | (5, n) => .long (lN n)
  | (6, n) => .double (UInt64.ofNat n)
  | (7, n) => .float (UInt32.ofNat n)
  | _ => .null
theorem e_get_eq {α : Type} : ∀ (l : List α) (n : Nat), e_get l n = l[n]?
  | [], n => by cases n <;> rfl
  | a :: _, 0 => rfl
  | _ :: t, n + 1 => by
    show e_get t n = _
    rw [e_get_eq t n]
    rfl
def e_bx (x : Int32) : Nat := (x.toBitVec.toNat + 2147483648) % 4294967296
theorem nI_nat (n : Nat) : (nI n).toBitVec.toNat = n % 4294967296 := by
  show (Int32.ofNat n).toBitVec.toNat = _
  simp
theorem nI_mod (n : Nat) : nI (n % 4294967296) = nI n := by
  apply Int32.toBitVec_inj.mp
  apply BitVec.eq_of_toNat_eq
  rw [nI_nat, nI_nat, Nat.mod_mod]
theorem e_bx_nI (n : Nat) : e_bx (nI n) = e_b n := by
  unfold e_bx e_b
  rw [nI_nat]
  omega
theorem e_bx_toInt (x : Int32) : (e_bx x : Int) = x.toInt + 2147483648 := by
  have h : x.toInt = if 2 * x.toBitVec.toNat < 4294967296 then (x.toBitVec.toNat : Int) else (x.toBitVec.toNat : Int) - 4294967296 := by
    show x.toBitVec.toInt = _
    rw [BitVec.toInt_eq_toNat_cond]
    rfl
  have h2 : x.toBitVec.toNat < 4294967296 := x.toBitVec.isLt
  unfold e_bx
  rw [h]
  split <;> omega
theorem e_bx_lt {x y : Int32} : x < y ↔ e_bx x < e_bx y := by
  rw [Int32.lt_iff_toInt_lt]
  have h1 := e_bx_toInt x
  have h2 := e_bx_toInt y
  omega
theorem e_bx_le {x y : Int32} : x ≤ y ↔ e_bx x ≤ e_bx y := by
  rw [Int32.le_iff_toInt_le]
  have h1 := e_bx_toInt x
  have h2 := e_bx_toInt y
  omega
theorem e_bx_eq {x y : Int32} : x = y ↔ e_bx x = e_bx y := by
  rw [← Int32.toInt_inj]
  have h1 := e_bx_toInt x
  have h2 := e_bx_toInt y
  omega
/-- what an operation of two ints answers -/
def e_binR (i : Nat) (x y r : Int32) : Prop := match i with
  | 0 => r = x + y
  | 1 => r = x - y
  | 2 => r = x * y
  | 3 => ¬ y = 0 ∧ r = x / y
  | 4 => ¬ y = 0 ∧ r = x - x / y * y
  | 5 => r = x &&& y
  | 6 => r = x >>> (y &&& 31)
  | _ => False
def e_unR (i : Nat) (x r : Int32) : Prop := match i with
  | 7 => r = (x.toUInt32 % 65536).toInt32
  | 8 => r = x.toInt8.toInt32
  | 9 => r = -x
  | _ => False
def e_ok0 (X : eX) (G : eG) : Prop := (∀ (k lo hi : Nat), e_get G.1 k = some (lo, hi) → lo ≤ e_bx (X.2 k) ∧ e_bx (X.2 k) ≤ hi) ∧ ∀ (o k c r : Nat), (o, k, c, r) ∈ G.2 → (o ≤ 6 → e_binR o (X.2 k) (nI c) (X.2 r)) ∧ (7 ≤ o → e_unR o (X.2 k) (X.2 r))
theorem c_isI {v : eV} (X : eX) (ρ : Nat → Nat) (h : e_isI v = true) : c_v X ρ v = .int (c_I X v) := by
  obtain ⟨t, n⟩ := v
  unfold e_isI at h
  simp only [Bool.or_eq_true] at h
  rcases h with h | h <;> (have := Nat.eq_of_beq_eq_true h; subst this; rfl)
theorem e_rng_ok {X : eX} {G : eG} (hG : e_ok0 X G) {v : eV} {lo hi : Nat} (h : e_rng G v = some (lo, hi)) : e_isI v = true ∧ lo ≤ e_bx (c_I X v) ∧ e_bx (c_I X v) ≤ hi := by
  obtain ⟨t, n⟩ := v
  unfold e_rng at h
  split at h
  · rename_i m heq
    cases heq
    obtain ⟨rfl, rfl⟩ := Prod.mk.inj (Option.some.inj h)
    exact ⟨rfl, Nat.le_of_eq (e_bx_nI n).symm, Nat.le_of_eq (e_bx_nI n)⟩
  · rename_i m heq
    cases heq
    exact ⟨rfl, hG.1 _ _ _ h⟩
  · cases h
theorem e_lt_ok {X : eX} {G : eG} (hG : e_ok0 X G) {a b : eV} {r : Bool} (h : e_lt G a b = some r) : e_isI a = true ∧ e_isI b = true ∧ (r = true ↔ c_I X a < c_I X b) := by
  unfold e_lt at h
  split at h
  · rename_i la ha lb hb h1 h2
    obtain ⟨i1, l1, u1⟩ := e_rng_ok hG h1
    obtain ⟨i2, l2, u2⟩ := e_rng_ok hG h2
    refine ⟨i1, i2, ?_⟩
    rw [e_bx_lt]
    cases hc : Nat.blt ha lb
    · rw [hc] at h
      cases hd : Nat.ble hb la
      · rw [hd] at h; cases h
      · rw [hd] at h
        cases h
        have := Nat.le_of_ble_eq_true hd
        constructor
        · intro q; cases q
        · intro q; omega
    · rw [hc] at h
      cases h
      have : ha < lb := Nat.le_of_ble_eq_true hc
      constructor
      · intro _; omega
      · intro _; rfl
  · cases h
theorem e_eq_ok {X : eX} {G : eG} (hG : e_ok0 X G) {a b : eV} {r : Bool} (h : e_eq G a b = some r) : e_isI a = true ∧ e_isI b = true ∧ (r = true ↔ c_I X a = c_I X b) := by
  unfold e_eq at h
  split at h
  · rename_i la ha lb hb h1 h2
    obtain ⟨i1, l1, u1⟩ := e_rng_ok hG h1
    obtain ⟨i2, l2, u2⟩ := e_rng_ok hG h2
    refine ⟨i1, i2, ?_⟩
    rw [e_bx_eq]
    cases hc : (Nat.blt ha lb || Nat.blt hb la)
    · rw [hc] at h
      cases hd : (Nat.beq la ha && (Nat.beq lb hb && Nat.beq la lb))
      · rw [hd] at h; cases h
      · rw [hd] at h
        cases h
        simp only [Bool.and_eq_true] at hd
        have q1 := Nat.eq_of_beq_eq_true hd.1
        have q2 := Nat.eq_of_beq_eq_true hd.2.1
        have q3 := Nat.eq_of_beq_eq_true hd.2.2
        constructor
        · intro _; omega
        · intro _; rfl
    · rw [hc] at h
      cases h
      simp only [Bool.or_eq_true] at hc
      have hc : ha < lb ∨ hb < la := hc.imp (fun q => Nat.le_of_ble_eq_true q) (fun q => Nat.le_of_ble_eq_true q)
      constructor
      · intro q; cases q
      · intro q; omega
  · cases h
/-- what a condition says -/
def e_condR (i : Nat) (x y : Int32) : Prop := match i with
  | 0 => x = y
  | 1 => ¬ x = y
  | 2 => x < y
  | 3 => y ≤ x
  | 4 => y < x
  | 5 => x ≤ y
  | _ => False
theorem e_not_ok {o : Option Bool} {r : Bool} (h : e_not o = some r) : ∃ b, o = some b ∧ (r = true ↔ ¬ b = true) := by
  cases o with
  | none => cases h
  | some b => exact ⟨b, rfl, by cases h; cases b <;> simp⟩
theorem i32_nlt {x y : Int32} : ¬ x < y ↔ y ≤ x := by
  rw [e_bx_lt, e_bx_le]; omega
theorem e_cond_ok {X : eX} {G : eG} (hG : e_ok0 X G) {i : Nat} {a b : eV} {r : Bool} (h : e_cond G i a b = some r) : i ≤ 5 ∧ e_isI a = true ∧ e_isI b = true ∧ (r = true ↔ e_condR i (c_I X a) (c_I X b)) := by
  match i, h with
  | 0, h => exact ⟨by omega, e_eq_ok hG h⟩
  | 1, h =>
    obtain ⟨b1, h1, h2⟩ := e_not_ok h
    obtain ⟨i1, i2, h3⟩ := e_eq_ok hG h1
    exact ⟨by omega, i1, i2, h2.trans (not_congr h3)⟩
  | 2, h => exact ⟨by omega, e_lt_ok hG h⟩
  | 3, h =>
    obtain ⟨b1, h1, h2⟩ := e_not_ok h
    obtain ⟨i1, i2, h3⟩ := e_lt_ok hG h1
    exact ⟨by omega, i1, i2, (h2.trans (not_congr h3)).trans i32_nlt⟩
  | 4, h =>
    obtain ⟨i1, i2, h3⟩ := e_lt_ok hG h
    exact ⟨by omega, i2, i1, h3⟩
  | 5, h =>
    obtain ⟨b1, h1, h2⟩ := e_not_ok h
    obtain ⟨i1, i2, h3⟩ := e_lt_ok hG h1
    exact ⟨by omega, i2, i1, (h2.trans (not_congr h3)).trans i32_nlt⟩
  | i + 6, h => cases h
theorem e_fact_ok {l : List (Nat × Nat × Nat × Nat)} {o k c r : Nat} (h : e_fact l o k c = some r) : (o, k, c, r) ∈ l := by
  induction l with
  | nil => cases h
  | cons a t ih =>
    obtain ⟨o', k', c', r'⟩ := a
    unfold e_fact at h
    cases hc : (Nat.beq o o' && (Nat.beq k k' && Nat.beq c c'))
    · rw [hc] at h
      exact List.mem_cons_of_mem _ (ih h)
    · rw [hc] at h
      cases h
      simp only [Bool.and_eq_true] at hc
      have q1 := Nat.eq_of_beq_eq_true hc.1
      have q2 := Nat.eq_of_beq_eq_true hc.2.1
      have q3 := Nat.eq_of_beq_eq_true hc.2.2
      subst q1; subst q2; subst q3
      exact List.mem_cons_self
theorem nI_subm (a b : Nat) : nI ((a + (4294967296 - b % 4294967296)) % 4294967296) = nI a - nI b := by
  apply Int32.toBitVec_inj.mp
  apply BitVec.eq_of_toNat_eq
  rw [nI_nat]
  show _ = (nI a - nI b).toBitVec.toNat
  rw [Int32.toBitVec_sub, BitVec.toNat_sub, nI_nat, nI_nat]
  omega
theorem nI_negm (a : Nat) : nI ((4294967296 - a % 4294967296) % 4294967296) = - nI a := by
  apply Int32.toBitVec_inj.mp
  apply BitVec.eq_of_toNat_eq
  rw [nI_nat, Int32.toBitVec_neg, BitVec.toNat_neg, nI_nat]
  omega
theorem nI_land (a b : Nat) : nI (Nat.land a b) = nI a &&& nI b := by
  apply Int32.toBitVec_inj.mp
  apply BitVec.eq_of_toNat_eq
  rw [nI_nat, Int32.toBitVec_and, BitVec.toNat_and, nI_nat, nI_nat]
  exact Nat.and_mod_two_pow (n := 32)
theorem nI_sm : ∀ b, b < 31 → ((nI b &&& 31).toBitVec.smod 32).toNat = b := by decide +kernel
theorem nI_i8a : ∀ c, c < 256 → (nI c).toInt8.toInt32 = nI (bif Nat.blt c 128 then c else 4294967040 + c) := by decide +kernel
theorem nI_i8 (a : Nat) : (nI a).toInt8 = (nI (a % 256)).toInt8 := by
  apply Int8.toBitVec_inj.mp
  apply BitVec.eq_of_toNat_eq
  show ((nI a).toBitVec.signExtend 8).toNat = ((nI (a % 256)).toBitVec.signExtend 8).toNat
  rw [BitVec.signExtend_eq_setWidth_of_le _ (by decide), BitVec.signExtend_eq_setWidth_of_le _ (by decide), BitVec.toNat_setWidth, BitVec.toNat_setWidth, nI_nat, nI_nat]
  omega
theorem e_bin_ok {X : eX} {G : eG} (hG : e_ok0 X G) {i : Nat} {x y v : eV} (h : e_bin G i x y = some v) : e_isI x = true ∧ e_isI y = true ∧ e_isI v = true ∧ e_binR i (c_I X x) (c_I X y) (c_I X v) := by
  unfold e_bin at h
  split at h
  · rename_i a b
    refine ⟨rfl, rfl, ?_⟩
    match i, h with
    | 0, h => cases h; exact ⟨rfl, by show nI _ = _; rw [nI_mod]; exact (nI_add a b).symm⟩
    | 1, h => cases h; exact ⟨rfl, nI_subm a b⟩
    | 2, h => cases h; exact ⟨rfl, by show nI _ = _; rw [nI_mod]; exact (pk_mul a b).symm⟩
    | 3, h =>
      cases hc : (Nat.blt a 2147483648 && (Nat.blt 0 b && Nat.blt b 2147483648))
      · rw [hc] at h; cases h
      · rw [hc] at h
        cases h
        simp only [Bool.and_eq_true] at hc
        have q1 : a < 2 ^ 31 := Nat.le_of_ble_eq_true hc.1
        have q2 : 0 < b := Nat.le_of_ble_eq_true hc.2.1
        have q3 : b < 2 ^ 31 := Nat.le_of_ble_eq_true hc.2.2
        exact ⟨rfl, nI_ne0 q2 q3, (pk_div q1 q2 q3).symm⟩
    | 4, h =>
      cases hc : (Nat.blt a 2147483648 && (Nat.blt 0 b && Nat.blt b 2147483648))
      · rw [hc] at h; cases h
      · rw [hc] at h
        cases h
        simp only [Bool.and_eq_true] at hc
        have q1 : a < 2 ^ 31 := Nat.le_of_ble_eq_true hc.1
        have q2 : 0 < b := Nat.le_of_ble_eq_true hc.2.1
        have q3 : b < 2 ^ 31 := Nat.le_of_ble_eq_true hc.2.2
        exact ⟨rfl, nI_ne0 q2 q3, (pk_rem q1 q2 q3).symm⟩
    | 5, h => cases h; exact ⟨rfl, nI_land a b⟩
    | 6, h =>
      cases hc : (Nat.blt a 2147483648 && Nat.blt b 31)
      · rw [hc] at h; cases h
      · rw [hc] at h
        cases h
        simp only [Bool.and_eq_true] at hc
        have q1 : a < 2 ^ 31 := Nat.le_of_ble_eq_true hc.1
        have q2 : b < 31 := Nat.le_of_ble_eq_true hc.2
        exact ⟨rfl, (pk_shrN q1 (nI b &&& 31) b (nI_sm b q2)).symm⟩
    | i + 7, h => cases h
  · rename_i k
    match i, h with
    | 0, h => cases h
    | 1, h => cases h
    | 2, h =>
      cases h
      refine ⟨rfl, rfl, rfl, ?_⟩
      show nI 0 = nI 0 * _
      rw [nI_0]
      simp
    | i + 3, h => cases h
  · rename_i k b
    cases hc : Nat.ble i 6
    · rw [hc] at h; cases h
    · rw [hc] at h
      have h : (match e_fact G.2 i k b with | some r => some (4, r) | none => none) = some v := h
      split at h
      · rename_i r hr
        cases h
        exact ⟨rfl, rfl, rfl, (hG.2 i k b r (e_fact_ok hr)).1 (Nat.le_of_ble_eq_true hc)⟩
      · cases h
  · cases h
theorem e_un_ok {X : eX} {G : eG} (hG : e_ok0 X G) {i : Nat} {x v : eV} (h : e_un G i x = some v) : e_isI x = true ∧ e_isI v = true ∧ e_unR i (c_I X x) (c_I X v) := by
  unfold e_un at h
  split at h
  · rename_i a
    refine ⟨rfl, ?_⟩
    match i, h with
    | 0, h => cases h
    | 1, h => cases h
    | 2, h => cases h
    | 3, h => cases h
    | 4, h => cases h
    | 5, h => cases h
    | 6, h => cases h
    | 7, h =>
      cases h
      refine ⟨rfl, ?_⟩
      show nI (a % 65536) = ((nI a).toUInt32 % 65536).toInt32
      rw [pk_char, nI_nat]
      exact congrArg nI (by omega)
    | 8, h =>
      have h : (bif Nat.blt (a % 256) 128 then some ((0 : Nat), a % 256) else some (0, 4294967040 + a % 256)) = some v := h
      have h2 := nI_i8a (a % 256) (Nat.mod_lt _ (by decide))
      have h3 : (nI a).toInt8.toInt32 = nI (bif Nat.blt (a % 256) 128 then a % 256 else 4294967040 + a % 256) := by rw [nI_i8]; exact h2
      cases hc : Nat.blt (a % 256) 128
      · rw [hc] at h h3
        cases h
        exact ⟨rfl, h3.symm⟩
      · rw [hc] at h h3
        cases h
        exact ⟨rfl, h3.symm⟩
    | 9, h => cases h; exact ⟨rfl, nI_negm a⟩
    | i + 10, h => cases h
  · rename_i k
    cases hc : Nat.ble 7 i
    · rw [hc] at h; cases h
    · rw [hc] at h
      have h : (match e_fact G.2 i k 0 with | some r => some (4, r) | none => none) = some v := h
      split at h
      · rename_i r hr
        cases h
        exact ⟨rfl, rfl, (hG.2 i k 0 r (e_fact_ok hr)).2 (Nat.le_of_ble_eq_true hc)⟩
      · cases h
  · cases h
theorem lN_nat (n : Nat) : (lN n).toBitVec.toNat = n % 18446744073709551616 := by
  show (Int64.ofNat n).toBitVec.toNat = _
  simp
theorem lN_mod (n : Nat) : lN (n % 18446744073709551616) = lN n := by
  apply Int64.toBitVec_inj.mp
  apply BitVec.eq_of_toNat_eq
  rw [lN_nat, lN_nat, Nat.mod_mod]
theorem lN_subm (a b : Nat) : lN ((a + (18446744073709551616 - b % 18446744073709551616)) % 18446744073709551616) = lN a - lN b := by
  apply Int64.toBitVec_inj.mp
  apply BitVec.eq_of_toNat_eq
  rw [lN_nat]
  show _ = (lN a - lN b).toBitVec.toNat
  rw [Int64.toBitVec_sub, BitVec.toNat_sub, lN_nat, lN_nat]
  omega
theorem e_i2l_ok (a : Nat) : (nI a).toInt64 = lN (e_i2l a) := by
  apply Int64.toInt_inj.mp
  rw [Int32.toInt_toInt64]
  have h1 := e_bx_toInt (nI a)
  rw [e_bx_nI] at h1
  have h2 : (lN (e_i2l a)).toInt = if 2 * (e_i2l a % 18446744073709551616) < 18446744073709551616 then ((e_i2l a % 18446744073709551616 : Nat) : Int) else ((e_i2l a % 18446744073709551616 : Nat) : Int) - 18446744073709551616 := by
    show (lN (e_i2l a)).toBitVec.toInt = _
    rw [BitVec.toInt_eq_toNat_cond, lN_nat]
    rfl
  rw [h2]
  unfold e_i2l e_b at *
  cases hc : Nat.blt (a % 4294967296) 2147483648
  · have : ¬ a % 4294967296 < 2147483648 := fun q => by rw [show Nat.blt (a % 4294967296) 2147483648 = true from Nat.ble_eq_true_of_le q] at hc; cases hc
    simp only [cond_false]
    split <;> omega
  · have : a % 4294967296 < 2147483648 := Nat.le_of_ble_eq_true hc
    simp only [cond_true]
    split <;> omega
def e_Bx (x : Int64) : Nat := (x.toBitVec.toNat + 9223372036854775808) % 18446744073709551616
theorem e_Bx_lN (n : Nat) : e_Bx (lN n) = e_B n := by
  unfold e_Bx e_B
  rw [lN_nat]
  omega
theorem e_Bx_toInt (x : Int64) : (e_Bx x : Int) = x.toInt + 9223372036854775808 := by
  have h : x.toInt = if 2 * x.toBitVec.toNat < 18446744073709551616 then (x.toBitVec.toNat : Int) else (x.toBitVec.toNat : Int) - 18446744073709551616 := by
    show x.toBitVec.toInt = _
    rw [BitVec.toInt_eq_toNat_cond]
    rfl
  have h2 : x.toBitVec.toNat < 18446744073709551616 := x.toBitVec.isLt
  unfold e_Bx
  rw [h]
  split <;> omega
theorem e_Bx_lt {x y : Int64} : x < y ↔ e_Bx x < e_Bx y := by
  rw [Int64.lt_iff_toInt_lt]
  have h1 := e_Bx_toInt x
  have h2 := e_Bx_toInt y
  omega
theorem e_Bx_eq {x y : Int64} : x = y ↔ e_Bx x = e_Bx y := by
  rw [← Int64.toInt_inj]
  have h1 := e_Bx_toInt x
  have h2 := e_Bx_toInt y
  omega
/-- what an operation of two longs answers -/
def e_lbinR (i : Nat) (x y : Int64) (v : Value) : Prop := match i with
  | 0 => v = .long (x + y)
  | 1 => v = .long (x - y)
  | 2 => v = .long (x * y)
  | 3 => ¬ y = 0 ∧ v = .long (x / y)
  | 4 => v = .int (lg_cmp x y)
  | _ => False
theorem e_lbin_ok (X : eX) (ρ : Nat → Nat) {i a b : Nat} {v : eV} (h : e_lbin i a b = some v) : (v.1 = 5 ∨ v.1 = 0) ∧ e_lbinR i (lN a) (lN b) (c_v X ρ v) := by
  match i, h with
  | 0, h => cases h; exact ⟨Or.inl rfl, by show Value.long (lN _) = _; rw [lN_mod]; exact congrArg Value.long (lN_add a b).symm⟩
  | 1, h => cases h; exact ⟨Or.inl rfl, congrArg Value.long (lN_subm a b)⟩
  | 2, h => cases h; exact ⟨Or.inl rfl, by show Value.long (lN _) = _; rw [lN_mod]; exact congrArg Value.long (lN_mul a b).symm⟩
  | 3, h =>
    have h : (bif Nat.blt a 9223372036854775808 && (Nat.blt 0 b && Nat.blt b 9223372036854775808) then some ((5 : Nat), a / b) else none) = some v := h
    cases hc : (Nat.blt a 9223372036854775808 && (Nat.blt 0 b && Nat.blt b 9223372036854775808))
    · rw [hc] at h; cases h
    · rw [hc] at h
      cases h
      simp only [Bool.and_eq_true] at hc
      have q1 : a < 2 ^ 63 := Nat.le_of_ble_eq_true hc.1
      have q2 : 0 < b := Nat.le_of_ble_eq_true hc.2.1
      have q3 : b < 2 ^ 63 := Nat.le_of_ble_eq_true hc.2.2
      refine ⟨Or.inl rfl, ?_, congrArg Value.long (pk_lDiv q1 q2 q3).symm⟩
      intro q
      have h3 := (pk_lEQ q3 (show 0 < 2 ^ 63 by decide)).mp (show lN b = lN 0 from q)
      omega
  | 4, h =>
    cases h
    refine ⟨Or.inr rfl, ?_⟩
    show Value.int (nI (bif Nat.blt (e_B a) (e_B b) then 4294967295 else bif Nat.blt (e_B b) (e_B a) then 1 else 0)) = Value.int (lg_cmp (lN a) (lN b))
    refine congrArg Value.int ?_
    rw [← e_Bx_lN a, ← e_Bx_lN b]
    unfold lg_cmp
    cases h1 : Nat.blt (e_Bx (lN a)) (e_Bx (lN b))
    · have n1 : ¬ lN a < lN b := fun q => by rw [show Nat.blt (e_Bx (lN a)) (e_Bx (lN b)) = true from Nat.ble_eq_true_of_le (e_Bx_lt.mp q)] at h1; cases h1
      cases h2 : Nat.blt (e_Bx (lN b)) (e_Bx (lN a))
      · have n2 : ¬ lN b < lN a := fun q => by rw [show Nat.blt (e_Bx (lN b)) (e_Bx (lN a)) = true from Nat.ble_eq_true_of_le (e_Bx_lt.mp q)] at h2; cases h2
        have n3 : lN a = lN b := e_Bx_eq.mpr (by have := mt e_Bx_lt.mpr n1; have := mt e_Bx_lt.mpr n2; omega)
        rw [if_neg n2, if_pos n3]
        exact nI_0
      · have n2 : lN b < lN a := e_Bx_lt.mpr (Nat.le_of_ble_eq_true h2)
        rw [if_pos n2]
        rfl
    · have n1 : lN a < lN b := e_Bx_lt.mpr (Nat.le_of_ble_eq_true h1)
      have n2 : ¬ lN b < lN a := fun q => by have := e_Bx_lt.mp q; have := e_Bx_lt.mp n1; omega
      have n3 : ¬ lN a = lN b := fun q => by have := e_Bx_eq.mp q; have := e_Bx_lt.mp n1; omega
      rw [if_neg n2, if_neg n3]
      rfl
  | i + 5, h => cases h
end
section
/-! locals, stacks and worlds of the abstract machine -/
theorem c_cat (X : eX) (ρ : Nat → Nat) (v : eV) : (c_v X ρ v).category = bif e_wide v then 2 else 1 := by
  obtain ⟨t, n⟩ := v
  match t with
  | 0 => rfl
  | 1 => rfl
  | 2 => rfl
  | 3 => rfl
  | 4 => rfl
  | 5 => rfl
  | 6 => rfl
  | 7 => rfl
  | t + 8 => rfl
theorem c_cat2 (X : eX) (ρ : Nat → Nat) (v : eV) : ((c_v X ρ v).category == 2) = e_wide v := by
  rw [c_cat]
  cases e_wide v <;> rfl
def c_ls (X : eX) (ρ : Nat → Nat) (ls : eL) : List (Nat × Value) := ls.map fun q => (q.1, c_v X ρ q.2)
theorem beq_nat (a b : Nat) : (a == b) = Nat.beq a b := Bool.eq_iff_iff.mpr ⟨fun h => by rw [eq_of_beq h]; exact Nat.beq_refl b, fun h => by rw [Nat.eq_of_beq_eq_true h]; exact beq_self_eq_true b⟩
theorem c_drop1 (X : eX) (ρ : Nat → Nat) (i : Nat) : ∀ ls : eL, (c_ls X ρ ls).filter (fun q => !(q.1 == i) && !(q.1 + 1 == i && q.2.category == 2)) = c_ls X ρ (e_drop1 i ls)
  | [] => rfl
  | (j, v) :: t => by
    have ih := c_drop1 X ρ i t
    show List.filter _ ((j, c_v X ρ v) :: c_ls X ρ t) = c_ls X ρ (bif Nat.beq j i || (Nat.beq (j + 1) i && e_wide v) then e_drop1 i t else (j, v) :: e_drop1 i t)
    rw [List.filter_cons]
    dsimp only
    rw [c_cat2, ih, beq_nat, beq_nat]
    cases Nat.beq j i <;> cases Nat.beq (j + 1) i <;> cases e_wide v <;> rfl
theorem c_drop2 (X : eX) (ρ : Nat → Nat) (i : Nat) : ∀ ls : eL, (c_ls X ρ ls).filter (fun q => !(q.1 == i) && (!(q.1 == i + 1) && !(q.1 + 1 == i && q.2.category == 2))) = c_ls X ρ (e_drop2 i ls)
  | [] => rfl
  | (j, v) :: t => by
    have ih := c_drop2 X ρ i t
    show List.filter _ ((j, c_v X ρ v) :: c_ls X ρ t) = c_ls X ρ (bif Nat.beq j i || (Nat.beq j (i + 1) || (Nat.beq (j + 1) i && e_wide v)) then e_drop2 i t else (j, v) :: e_drop2 i t)
    rw [List.filter_cons]
    dsimp only
    rw [c_cat2, ih, beq_nat, beq_nat, beq_nat]
    cases Nat.beq j i <;> cases Nat.beq j (i + 1) <;> cases Nat.beq (j + 1) i <;> cases e_wide v <;> rfl
theorem c_look (X : eX) (ρ : Nat → Nat) {i : Nat} {v : eV} : ∀ {ls : eL}, e_look ls i = some v → (i, v) ∈ ls
  | [], h => by cases h
  | (j, w) :: t, h => by
    have h : (bif Nat.beq j i then some w else e_look t i) = some v := h
    cases hc : Nat.beq j i
    · rw [hc] at h
      exact List.mem_cons_of_mem _ (c_look X ρ h)
    · rw [hc] at h
      cases h
      have := Nat.eq_of_beq_eq_true hc
      subst this
      exact List.mem_cons_self
theorem c_lookv {X : eX} {ρ : Nat → Nat} {i n : Nat} {v : eV} {ls : eL} {la : Array Slot} (h : e_look ls i = some v) (hl : lv_has la n (c_ls X ρ ls)) : la[i]? = some (.val (c_v X ρ v)) :=
  hl.2.2 (i, c_v X ρ v) (List.mem_map_of_mem (f := fun q : Nat × eV => (q.1, c_v X ρ q.2)) (c_look X ρ h))
theorem c_cats (X : eX) (ρ : Nat → Nat) : ∀ st : List eV, ((st.map (c_v X ρ)).map fun v => v.category).sum = e_cat st
  | [] => rfl
  | v :: t => by
    show (c_v X ρ v).category + ((t.map (c_v X ρ)).map fun v => v.category).sum = (bif e_wide v then 2 else 1) + e_cat t
    rw [c_cats X ρ t, c_cat]
theorem c_args (X : eX) (ρ : Nat → Nat) : ∀ (as : List eV) (i : Nat), lv_args i (as.map (c_v X ρ)) = c_ls X ρ (e_args i as)
  | [], _ => rfl
  | v :: t, i => by
    show (i, c_v X ρ v) :: lv_args (if (c_v X ρ v).category = 2 then i + 2 else i + 1) (t.map (c_v X ρ)) = (i, c_v X ρ v) :: c_ls X ρ (e_args (bif e_wide v then i + 2 else i + 1) t)
    rw [c_cat]
    cases e_wide v
    · rw [← c_args X ρ t]; rfl
    · rw [← c_args X ρ t]; rfl
theorem lg_len : ∀ vs : List Value, (lg_sl vs).length = (vs.map fun v => v.category).sum
  | [] => rfl
  | v :: t => by
    have ih := lg_len t
    unfold lg_sl at ih ⊢
    rw [List.flatMap_cons, List.length_append, ih, List.map_cons, List.sum_cons]
    congr 1
    cases v <;> rfl
def c_L (v : eV) : Int64 := match v with
  | (5, n) => lN n
  | _ => 0
def c_D (v : eV) : UInt64 := match v with
  | (6, n) => UInt64.ofNat n
  | _ => 0
def c_R (X : eX) (ρ : Nat → Nat) (v : eV) : Option Nat := match v with
  | (2, k) => some (ρ k)
  | (3, k) => some (X.1 k)
  | _ => none
/-- an array's components -/
def c_a (X : eX) (ρ : Nat → Nat) (t : Nat) (l : List eV) : vp_A := (l.length, match t with
  | 3 => .inr (.inl fun j => c_L (l.getD j (5, 0)))
  | 4 => .inr (.inr (.inr (.inl fun j => c_D (l.getD j (6, 0)))))
  | 6 => .inr (.inr (.inr (.inr fun j => c_R X ρ (l.getD j (1, 0)))))
  | 7 => .inr (.inr (.inr (.inr fun j => c_R X ρ (l.getD j (1, 0)))))
  | _ => .inl fun j => c_I X (l.getD j (0, 0)))
def c_c (X : eX) (cA : Nat → ClassId) (ρ : Nat → Nat) (c : eC) : va_E := match c with
  | (0, ci, fs) => .inr (ci, fs.map (c_v X ρ))
  | (_, t, l) => .inl (cA t, c_a X ρ t l)
def c_w (X : eX) (cA : Nat → ClassId) (ρ : Nat → Nat) : Nat → eH → va_W
  | _, [] => []
  | i, c :: t => (ρ i, c_c X cA ρ c) :: c_w X cA ρ (i + 1) t
theorem cw_get (X : eX) (cA : Nat → ClassId) (ρ : Nat → Nat) : ∀ (h : eH) (i k : Nat), (c_w X cA ρ i h)[k]? = (e_get h k).map fun c => (ρ (i + k), c_c X cA ρ c)
  | [], _, _ => rfl
  | c :: t, i, 0 => rfl
  | c :: t, i, k + 1 => by
    show (c_w X cA ρ (i + 1) t)[k]? = (e_get t k).map fun c => (ρ (i + (k + 1)), c_c X cA ρ c)
    rw [cw_get X cA ρ t (i + 1) k, show i + 1 + k = i + (k + 1) by omega]
theorem cw_set (X : eX) (cA : Nat → ClassId) (ρ : Nat → Nat) (c : eC) : ∀ (h : eH) (i k : Nat), (c_w X cA ρ i h).set k (ρ (i + k), c_c X cA ρ c) = c_w X cA ρ i (h.set k c)
  | [], _, _ => rfl
  | _ :: t, i, 0 => rfl
  | d :: t, i, k + 1 => by
    show (ρ i, c_c X cA ρ d) :: (c_w X cA ρ (i + 1) t).set k (ρ (i + (k + 1)), c_c X cA ρ c) = (ρ i, c_c X cA ρ d) :: c_w X cA ρ (i + 1) (t.set k c)
    rw [← cw_set X cA ρ c t (i + 1) k, show i + 1 + k = i + (k + 1) by omega]
theorem cw_app (X : eX) (cA : Nat → ClassId) (ρ : Nat → Nat) (g : eH) : ∀ (h : eH) (i : Nat), c_w X cA ρ i (h ++ g) = c_w X cA ρ i h ++ c_w X cA ρ (i + h.length) g
  | [], i => rfl
  | c :: t, i => by
    show (ρ i, c_c X cA ρ c) :: c_w X cA ρ (i + 1) (t ++ g) = (ρ i, c_c X cA ρ c) :: (c_w X cA ρ (i + 1) t ++ c_w X cA ρ (i + (t.length + 1)) g)
    rw [cw_app X cA ρ g t (i + 1), show i + 1 + t.length = i + (t.length + 1) by omega]
/-- a value speaks of the first n places alone -/
def e_okV (n : Nat) (v : eV) : Prop := v.1 = 2 → v.2 < n
def e_okS (n : Nat) (st : List eV) : Prop := ∀ v ∈ st, e_okV n v
def e_okLs (n : Nat) (ls : eL) : Prop := ∀ q ∈ ls, e_okV n q.2
def e_okH (n : Nat) (h : eH) : Prop := ∀ c ∈ h, e_okS n c.2.2
theorem c_v_congr {X : eX} {ρ ρ' : Nat → Nat} {n : Nat} {v : eV} (h : e_okV n v) (hρ : ∀ k, k < n → ρ' k = ρ k) : c_v X ρ' v = c_v X ρ v := by
  obtain ⟨t, k⟩ := v
  match t, h with
  | 0, _ => rfl
  | 1, _ => rfl
  | 2, h => exact congrArg Value.ref (hρ k (h rfl))
  | 3, _ => rfl
  | 4, _ => rfl
  | 5, _ => rfl
  | 6, _ => rfl
  | 7, _ => rfl
  | t + 8, _ => rfl
theorem c_R_congr {X : eX} {ρ ρ' : Nat → Nat} {n : Nat} {v : eV} (h : e_okV n v) (hρ : ∀ k, k < n → ρ' k = ρ k) : c_R X ρ' v = c_R X ρ v := by
  obtain ⟨t, k⟩ := v
  match t, h with
  | 0, _ => rfl
  | 1, _ => rfl
  | 2, h => exact congrArg some (hρ k (h rfl))
  | 3, _ => rfl
  | t + 4, _ => rfl
theorem c_st_congr {X : eX} {ρ ρ' : Nat → Nat} {n : Nat} {st : List eV} (h : e_okS n st) (hρ : ∀ k, k < n → ρ' k = ρ k) : st.map (c_v X ρ') = st.map (c_v X ρ) :=
  List.map_congr_left fun v hv => c_v_congr (h v hv) hρ
theorem c_ls_congr {X : eX} {ρ ρ' : Nat → Nat} {n : Nat} {ls : eL} (h : e_okLs n ls) (hρ : ∀ k, k < n → ρ' k = ρ k) : c_ls X ρ' ls = c_ls X ρ ls :=
  List.map_congr_left fun q hq => by rw [c_v_congr (h q hq) hρ]
theorem e_okgetD {n j : Nat} {l : List eV} {d : eV} (h : e_okS n l) (hd : e_okV n d) : e_okV n (l.getD j d) := by
  rw [List.getD_eq_getElem?_getD]
  cases hj : l[j]? with
  | none => exact hd
  | some v => exact h v (List.mem_of_getElem? hj)
theorem c_c_congr {X : eX} {cA : Nat → ClassId} {ρ ρ' : Nat → Nat} {n : Nat} {c : eC} (h : e_okS n c.2.2) (hρ : ∀ k, k < n → ρ' k = ρ k) : c_c X cA ρ' c = c_c X cA ρ c := by
  obtain ⟨k, t, l⟩ := c
  have ha : c_a X ρ' t l = c_a X ρ t l := by
    unfold c_a
    refine congrArg (Prod.mk _) ?_
    have hf : (fun j => c_R X ρ' (l.getD j (1, 0))) = fun j => c_R X ρ (l.getD j (1, 0)) := funext fun j => c_R_congr (e_okgetD h (fun q => by cases q)) hρ
    split <;> first | rfl | rw [hf]
  match k with
  | 0 => exact congrArg Sum.inr (congrArg (Prod.mk t) (c_st_congr h hρ))
  | k + 1 => exact congrArg Sum.inl (congrArg (Prod.mk (cA t)) ha)
theorem cw_congr {X : eX} {cA : Nat → ClassId} {ρ ρ' : Nat → Nat} {n : Nat} (hρ : ∀ k, k < n → ρ' k = ρ k) : ∀ (h : eH) (i : Nat), e_okH n h → i + h.length ≤ n → c_w X cA ρ' i h = c_w X cA ρ i h
  | [], _, _, _ => rfl
  | c :: t, i, hh, hi => by
    have hi2 : i + (t.length + 1) ≤ n := hi
    show (ρ' i, c_c X cA ρ' c) :: c_w X cA ρ' (i + 1) t = (ρ i, c_c X cA ρ c) :: c_w X cA ρ (i + 1) t
    rw [hρ i (by omega), c_c_congr (hh c List.mem_cons_self) hρ, cw_congr hρ t (i + 1) (fun d hd => hh d (List.mem_cons_of_mem _ hd)) (by omega)]
/-- a new cell's address -/
def e_ext (ρ : Nat → Nat) (n q : Nat) : Nat → Nat := fun k => if k = n then q else ρ k
theorem e_ext_lt {ρ : Nat → Nat} {n q k : Nat} (h : k < n) : e_ext ρ n q k = ρ k := if_neg (by omega)
theorem e_ext_at {ρ : Nat → Nat} {n q : Nat} : e_ext ρ n q n = q := if_pos rfl
theorem cw_new {X : eX} {cA : Nat → ClassId} {ρ : Nat → Nat} {h : eH} {c : eC} {q : Nat} (hh : e_okH h.length h) : c_w X cA (e_ext ρ h.length q) 0 (h ++ [c]) = c_w X cA ρ 0 h ++ [(q, c_c X cA (e_ext ρ h.length q) c)] := by
  rw [cw_app, cw_congr (n := h.length) (fun k hk => e_ext_lt hk) h 0 hh (by omega)]
  show _ ++ [(e_ext ρ h.length q (0 + h.length), _)] = _
  rw [Nat.zero_add, e_ext_at]
theorem e_okV.mono {n n' : Nat} {v : eV} (h : e_okV n v) (hn : n ≤ n') : e_okV n' v := fun q => Nat.lt_of_lt_of_le (h q) hn
theorem e_okS.mono {n n' : Nat} {st : List eV} (h : e_okS n st) (hn : n ≤ n') : e_okS n' st := fun v hv => (h v hv).mono hn
theorem e_okLs.mono {n n' : Nat} {ls : eL} (h : e_okLs n ls) (hn : n ≤ n') : e_okLs n' ls := fun q hq => (h q hq).mono hn
theorem e_okH.mono {n n' : Nat} {h : eH} (hh : e_okH n h) (hn : n ≤ n') : e_okH n' h := fun c hc => (hh c hc).mono hn
end
section
/-! what an instruction does, said of every frame of its method: the simple ones -/
/-- the words that a change of the state leaves: every method's list is these, behind its own code -/
def wG : List Cond := lw_tbl.filter goodWord
/-- a method: its name, its bytes, its locals, what it answers -/
abbrev eD : Type := MethodName × ByteArray × Nat × Option FieldType
def eCx (p : Program) (s : State) (m : MethodId) (args : Array Value) (meth : Method) (c : Code) (D : eD) : Prop :=
  p.tables.exec = Jvm.exec ∧ c.code = D.2.1 ∧ c.maxLocals = D.2.2.1 ∧ meth.sig.returnType = D.2.2.2 ∧ (∀ w ∈ wG, w.before args s = true) ∧ s.vm.findClass D.1.cls = some m.cls ∧ meth.locks = false ∧ meth.name = D.1.name
def eStp (D : eD) (f g : MethodId → JFrame) : Prop :=
  ∀ (p : Program) (l : Launch) (e : Env) (R : Room) (s : State) (m : MethodId) (args : Array Value) (below : List Frame) (meth : Method) (c : Code) (H : Heap) (locs : List Loc) (cells slots : Nat) (Q : State → Prop), eCx p s m args meth c D → W p l e R s m args below meth c H locs cells slots Q (g m) → W p l e R s m args below meth c H locs cells slots Q (f m)
/-- .. with new locals -/
def eStpL (D : eD) (f : MethodId → JFrame) (nx : Nat) (st : List Value) (lv : List (Nat × Value)) : Prop :=
  ∀ (p : Program) (l : Launch) (e : Env) (R : Room) (s : State) (m : MethodId) (args : Array Value) (below : List Frame) (meth : Method) (c : Code) (H : Heap) (locs : List Loc) (cells slots : Nat) (Q : State → Prop), eCx p s m args meth c D → (∀ ls : Array Slot, lv_has ls D.2.2.1 lv → W p l e R s m args below meth c H locs cells slots Q (F0 m nx ls st)) → W p l e R s m args below meth c H locs cells slots Q (f m)
/-- .. one way or the other -/
def eStpC (D : eD) (P : Prop) (f g h : MethodId → JFrame) : Prop :=
  ∀ (p : Program) (l : Launch) (e : Env) (R : Room) (s : State) (m : MethodId) (args : Array Value) (below : List Frame) (meth : Method) (c : Code) (H : Heap) (locs : List Loc) (cells slots : Nat) (Q : State → Prop), eCx p s m args meth c D → (P → W p l e R s m args below meth c H locs cells slots Q (g m)) → (¬ P → W p l e R s m args below meth c H locs cells slots Q (h m)) → W p l e R s m args below meth c H locs cells slots Q (f m)
def kV (i : Nat) (V : Value) : Prop := match i with
  | 0 => ∃ x, V = .int x
  | 1 => ∃ x, V = .ref x
  | 2 => ∃ x, V = .long x
  | 3 => ∃ x, V = .double x
  | _ => False
def okPush (D : eD) (pc nx : Nat) (V : Value) : Prop := ∀ (ls : Array Slot) (st : List Value), eStp D (fun m => F0 m pc ls st) (fun m => F0 m nx ls (V :: st))
def okLoad (D : eD) (pc nx i a : Nat) : Prop := ∀ (ls : Array Slot) (st : List Value) (V : Value), kV i V → ls[a]? = some (.val V) → eStp D (fun m => F0 m pc ls st) (fun m => F0 m nx ls (V :: st))
def okStore1 (D : eD) (pc nx i a : Nat) : Prop := ∀ (ls : Array Slot) (lv : List (Nat × Value)) (st : List Value) (V : Value), kV i V → lv_has ls D.2.2.1 lv → eStpL D (fun m => F0 m pc ls (V :: st)) nx st ((a, V) :: lv.filter (fun q => !(q.1 == a) && !(q.1 + 1 == a && q.2.category == 2)))
def okStore2 (D : eD) (pc nx i a : Nat) : Prop := ∀ (ls : Array Slot) (lv : List (Nat × Value)) (st : List Value) (V : Value), kV i V → lv_has ls D.2.2.1 lv → eStpL D (fun m => F0 m pc ls (V :: st)) nx st ((a, V) :: lv.filter (fun q => !(q.1 == a) && (!(q.1 == a + 1) && !(q.1 + 1 == a && q.2.category == 2))))
def okIinc (D : eD) (pc nx a b : Nat) : Prop := ∀ (ls : Array Slot) (lv : List (Nat × Value)) (st : List Value) (x : Int32), lv_has ls D.2.2.1 lv → (a, Value.int x) ∈ lv → eStpL D (fun m => F0 m pc ls st) nx st ((a, .int (x + nI b)) :: lv.filter (fun q => !(q.1 == a) && !(q.1 + 1 == a && q.2.category == 2)))
def okDup (D : eD) (pc nx : Nat) : Prop := ∀ (ls : Array Slot) (st : List Value) (V : Value), V.category = 1 → eStp D (fun m => F0 m pc ls (V :: st)) (fun m => F0 m nx ls (V :: V :: st))
def okPop (D : eD) (pc nx : Nat) : Prop := ∀ (ls : Array Slot) (st : List Value) (V : Value), V.category = 1 → eStp D (fun m => F0 m pc ls (V :: st)) (fun m => F0 m nx ls st)
def okDupX (D : eD) (pc nx : Nat) : Prop := ∀ (ls : Array Slot) (st : List Value) (V U : Value), V.category = 1 → U.category = 1 → eStp D (fun m => F0 m pc ls (V :: U :: st)) (fun m => F0 m nx ls (V :: U :: V :: st))
def okGoto (D : eD) (pc nx : Nat) : Prop := ∀ (ls : Array Slot) (st : List Value), eStp D (fun m => F0 m pc ls st) (fun m => F0 m nx ls st)
def okBin (D : eD) (pc nx i : Nat) : Prop := ∀ (ls : Array Slot) (st : List Value) (x y r : Int32), e_binR i x y r → eStp D (fun m => F0 m pc ls (.int y :: .int x :: st)) (fun m => F0 m nx ls (.int r :: st))
def okUn (D : eD) (pc nx i : Nat) : Prop := ∀ (ls : Array Slot) (st : List Value) (x r : Int32), e_unR i x r → eStp D (fun m => F0 m pc ls (.int x :: st)) (fun m => F0 m nx ls (.int r :: st))
def okIf (D : eD) (pc nx tgt i : Nat) : Prop := ∀ (ls : Array Slot) (st : List Value) (x : Int32), eStpC D (e_condR i x 0) (fun m => F0 m pc ls (.int x :: st)) (fun m => F0 m tgt ls st) (fun m => F0 m nx ls st)
def okIcmp (D : eD) (pc nx tgt i : Nat) : Prop := ∀ (ls : Array Slot) (st : List Value) (x y : Int32), eStpC D (e_condR i x y) (fun m => F0 m pc ls (.int y :: .int x :: st)) (fun m => F0 m tgt ls st) (fun m => F0 m nx ls st)
def okLbin (D : eD) (pc nx i : Nat) : Prop := ∀ (ls : Array Slot) (st : List Value) (x y : Int64) (V : Value), e_lbinR i x y V → eStp D (fun m => F0 m pc ls (.long y :: .long x :: st)) (fun m => F0 m nx ls (V :: st))
def okRw (D : eD) (pc nx : Nat) (a b : List Value) : Prop := ∀ (ls : Array Slot) (st : List Value), eStp D (fun m => F0 m pc ls (a ++ st)) (fun m => F0 m nx ls (b ++ st))
def okI2l (D : eD) (pc nx : Nat) : Prop := ∀ x : Int32, okRw D pc nx [.int x] [.long x.toInt64]
section OKS
variable {D : eD} {pc nx a b i : Nat}
theorem okc_iconst {n : Int} (d : decode D.2.1 pc = .ok (.iconst n, 1)) (hv : Int32.ofInt n = nI a) : okPush D pc (pc + 1) (.int (nI a)) := fun _ _ _ _ _ _ _ _ _ _ _ _ _ _ _ _ _ ⟨hx, hb, _⟩ k => lv_iconst hx hb d hv k
theorem okc_bipush {n : Int} (d : decode D.2.1 pc = .ok (.bipush n, 2)) (hv : (Int8.ofInt n).toInt32 = nI a) : okPush D pc (pc + 2) (.int (nI a)) := fun _ _ _ _ _ _ _ _ _ _ _ _ _ _ _ _ _ ⟨hx, hb, _⟩ k => lv_bipush hx hb d hv k
theorem okc_sipush {n : Int} (d : decode D.2.1 pc = .ok (.sipush n, 3)) (hv : (Int16.ofInt n).toInt32 = nI a) : okPush D pc (pc + 3) (.int (nI a)) := fun _ _ _ _ _ _ _ _ _ _ _ _ _ _ _ _ _ ⟨hx, hb, _⟩ k => lv_sipush hx hb d hv k
theorem okc_ldc {x : Nat} (d : decode D.2.1 pc = .ok (.ldc x, 2)) (hw : Cond.constant D.1.cls x (nI a) ∈ wG) : okPush D pc (pc + 2) (.int (nI a)) := fun _ _ _ _ _ _ _ _ _ _ _ _ _ _ _ _ _ ⟨hx, hb, _, _, ht, ho, _⟩ k => lv_ldc hx hb ho (ht _ hw) d k
theorem okc_ldcw {x : Nat} (d : decode D.2.1 pc = .ok (.ldc_w x, 3)) (hw : Cond.constant D.1.cls x (nI a) ∈ wG) : okPush D pc (pc + 3) (.int (nI a)) := fun _ _ _ _ _ _ _ _ _ _ _ _ _ _ _ _ _ ⟨hx, hb, _, _, ht, ho, _⟩ k => lv_ldcw hx hb ho (ht _ hw) d k
theorem okc_lconst {n : Fin 2} (d : decode D.2.1 pc = .ok (.lconst n, 1)) (hv : Int64.ofNat (n : Nat) = lN a) : okPush D pc (pc + 1) (.long (lN a)) := fun _ _ _ _ _ _ _ _ _ _ _ _ _ _ _ _ _ ⟨hx, hb, _⟩ k => lv_lconst hx hb d hv k
theorem okc_ldc2 {x : Nat} (d : decode D.2.1 pc = .ok (.ldc2_w x, 3)) (hw : Cond.constantLong D.1.cls x (lN a) ∈ wG) : okPush D pc (pc + 3) (.long (lN a)) := fun _ _ _ _ _ _ _ _ _ _ _ _ _ _ _ _ _ ⟨hx, hb, _, _, ht, ho, _⟩ k => lv_ldc2 hx hb ho (ht _ hw) d k
theorem okc_ldc2d {x : Nat} (d : decode D.2.1 pc = .ok (.ldc2_w x, 3)) (hw : Cond.constantDouble D.1.cls x (UInt64.ofNat a) ∈ wG) : okPush D pc (pc + 3) (.double (UInt64.ofNat a)) := fun _ _ _ _ _ _ _ _ _ _ _ _ _ _ _ _ _ ⟨hx, hb, _, _, ht, ho, _⟩ k => lv_ldc2d hx hb ho (ht _ hw) d k
theorem okc_ldcf {x : Nat} (d : decode D.2.1 pc = .ok (.ldc x, 2)) (hw : Cond.constantFloat D.1.cls x (UInt32.ofNat a) ∈ wG) : okPush D pc (pc + 2) (.float (UInt32.ofNat a)) := fun _ _ _ _ _ _ _ _ _ _ _ _ _ _ _ _ _ ⟨hx, hb, _, _, ht, ho, _⟩ k => lv_ldcf hx hb ho (ht _ hw) d k
theorem okc_dconst0 (d : decode D.2.1 pc = .ok (.dconst 0, 1)) : okPush D pc (pc + 1) (.double (UInt64.ofNat 0)) := fun _ _ _ _ _ _ _ _ _ _ _ _ _ _ _ _ _ ⟨hx, hb, _⟩ k => lv_dconst0 hx hb d k
theorem okc_null (d : decode D.2.1 pc = .ok (.aconst_null, 1)) : okPush D pc (pc + 1) .null := fun _ _ _ _ _ _ _ _ _ _ _ _ _ _ _ _ _ ⟨hx, hb, _⟩ k => lv_null hx hb d k
theorem okl_iload_n {k : Fin 4} (d : decode D.2.1 pc = .ok (.iload_n k, 1)) (hi : (k : Nat) = a) : okLoad D pc (pc + 1) 0 a := fun _ _ _ ⟨_, hv⟩ hl _ _ _ _ _ _ _ _ _ _ _ _ _ _ _ ⟨hx, hb, _⟩ kk => by subst hv; exact lv_iload_n hx hb d hi hl kk
theorem okl_iload (d : decode D.2.1 pc = .ok (.iload a, 2)) : okLoad D pc (pc + 2) 0 a := fun _ _ _ ⟨_, hv⟩ hl _ _ _ _ _ _ _ _ _ _ _ _ _ _ _ ⟨hx, hb, _⟩ kk => by subst hv; exact lv_iload hx hb d hl kk
theorem okl_aload_n {k : Fin 4} (d : decode D.2.1 pc = .ok (.aload_n k, 1)) (hi : (k : Nat) = a) : okLoad D pc (pc + 1) 1 a := fun _ _ _ ⟨_, hv⟩ hl _ _ _ _ _ _ _ _ _ _ _ _ _ _ _ ⟨hx, hb, _⟩ kk => by subst hv; exact lv_aload_n hx hb d hi hl kk
theorem okl_aload (d : decode D.2.1 pc = .ok (.aload a, 2)) : okLoad D pc (pc + 2) 1 a := fun _ _ _ ⟨_, hv⟩ hl _ _ _ _ _ _ _ _ _ _ _ _ _ _ _ ⟨hx, hb, _⟩ kk => by subst hv; exact lv_aload hx hb d hl kk
theorem okl_lload_n {k : Fin 4} (d : decode D.2.1 pc = .ok (.lload_n k, 1)) (hi : (k : Nat) = a) : okLoad D pc (pc + 1) 2 a := fun _ _ _ ⟨_, hv⟩ hl _ _ _ _ _ _ _ _ _ _ _ _ _ _ _ ⟨hx, hb, _⟩ kk => by subst hv; exact lv_lload_n hx hb d hi hl kk
theorem okl_lload (d : decode D.2.1 pc = .ok (.lload a, 2)) : okLoad D pc (pc + 2) 2 a := fun _ _ _ ⟨_, hv⟩ hl _ _ _ _ _ _ _ _ _ _ _ _ _ _ _ ⟨hx, hb, _⟩ kk => by subst hv; exact lv_lload hx hb d hl kk
theorem okl_dload_n {k : Fin 4} (d : decode D.2.1 pc = .ok (.dload_n k, 1)) (hi : (k : Nat) = a) : okLoad D pc (pc + 1) 3 a := fun _ _ _ ⟨_, hv⟩ hl _ _ _ _ _ _ _ _ _ _ _ _ _ _ _ ⟨hx, hb, _⟩ kk => by subst hv; exact lv_dload_n hx hb d hi hl kk
theorem okl_dload (d : decode D.2.1 pc = .ok (.dload a, 2)) : okLoad D pc (pc + 2) 3 a := fun _ _ _ ⟨_, hv⟩ hl _ _ _ _ _ _ _ _ _ _ _ _ _ _ _ ⟨hx, hb, _⟩ kk => by subst hv; exact lv_dload hx hb d hl kk
theorem oks_istore_n {k : Fin 4} (d : decode D.2.1 pc = .ok (.istore_n k, 1)) (hi : (k : Nat) = a) (hn : a < D.2.2.1) : okStore1 D pc (pc + 1) 0 a := fun _ _ _ _ ⟨_, hv⟩ hl _ _ _ _ _ _ _ _ _ _ _ _ _ _ _ ⟨hx, hb, _⟩ kk => by subst hv; exact lv_istore_n hx hb d hi hl hn rfl kk
theorem oks_istore (d : decode D.2.1 pc = .ok (.istore a, 2)) (hn : a < D.2.2.1) : okStore1 D pc (pc + 2) 0 a := fun _ _ _ _ ⟨_, hv⟩ hl _ _ _ _ _ _ _ _ _ _ _ _ _ _ _ ⟨hx, hb, _⟩ kk => by subst hv; exact lv_istore hx hb d hl hn rfl kk
theorem oks_astore_n {k : Fin 4} (d : decode D.2.1 pc = .ok (.astore_n k, 1)) (hi : (k : Nat) = a) (hn : a < D.2.2.1) : okStore1 D pc (pc + 1) 1 a := fun _ _ _ _ ⟨_, hv⟩ hl _ _ _ _ _ _ _ _ _ _ _ _ _ _ _ ⟨hx, hb, _⟩ kk => by subst hv; exact lv_astore_n hx hb d hi hl hn rfl kk
theorem oks_astore (d : decode D.2.1 pc = .ok (.astore a, 2)) (hn : a < D.2.2.1) : okStore1 D pc (pc + 2) 1 a := fun _ _ _ _ ⟨_, hv⟩ hl _ _ _ _ _ _ _ _ _ _ _ _ _ _ _ ⟨hx, hb, _⟩ kk => by subst hv; exact lv_astore hx hb d hl hn rfl kk
theorem oks_lstore_n {k : Fin 4} (d : decode D.2.1 pc = .ok (.lstore_n k, 1)) (hi : (k : Nat) = a) (hn : a + 1 < D.2.2.1) : okStore2 D pc (pc + 1) 2 a := fun _ _ _ _ ⟨_, hv⟩ hl _ _ _ _ _ _ _ _ _ _ _ _ _ _ _ ⟨hx, hb, _⟩ kk => by subst hv; exact lv_lstore_n hx hb d hi hl hn rfl kk
theorem oks_lstore (d : decode D.2.1 pc = .ok (.lstore a, 2)) (hn : a + 1 < D.2.2.1) : okStore2 D pc (pc + 2) 2 a := fun _ _ _ _ ⟨_, hv⟩ hl _ _ _ _ _ _ _ _ _ _ _ _ _ _ _ ⟨hx, hb, _⟩ kk => by subst hv; exact lv_lstore hx hb d hl hn rfl kk
theorem oks_dstore_n {k : Fin 4} (d : decode D.2.1 pc = .ok (.dstore_n k, 1)) (hi : (k : Nat) = a) (hn : a + 1 < D.2.2.1) : okStore2 D pc (pc + 1) 3 a := fun _ _ _ _ ⟨_, hv⟩ hl _ _ _ _ _ _ _ _ _ _ _ _ _ _ _ ⟨hx, hb, _⟩ kk => by subst hv; exact lv_dstore_n hx hb d hi hl hn rfl kk
theorem oks_dstore (d : decode D.2.1 pc = .ok (.dstore a, 2)) (hn : a + 1 < D.2.2.1) : okStore2 D pc (pc + 2) 3 a := fun _ _ _ _ ⟨_, hv⟩ hl _ _ _ _ _ _ _ _ _ _ _ _ _ _ _ ⟨hx, hb, _⟩ kk => by subst hv; exact lv_dstore hx hb d hl hn rfl kk
theorem oki_iinc {n : Int} (d : decode D.2.1 pc = .ok (.iinc a n, 3)) (hv : Int32.ofInt n = nI b) (hn : a < D.2.2.1) : okIinc D pc (pc + 3) a b := fun _ _ _ _ hl hm _ _ _ _ _ _ _ _ _ _ _ _ _ _ _ ⟨hx, hb, _⟩ kk => by
  obtain ⟨k, hk⟩ := List.getElem?_of_mem hm
  exact lv_iinc hx hb d hl hk (by rw [hv]) hn rfl kk
theorem oki_dup (d : decode D.2.1 pc = .ok (.dup, 1)) : okDup D pc (pc + 1) := fun _ _ _ hc _ _ _ _ _ _ _ _ _ _ _ _ _ _ _ ⟨hx, hb, _⟩ k => lv_dup hx hb d hc k
theorem oki_pop (d : decode D.2.1 pc = .ok (.pop, 1)) : okPop D pc (pc + 1) := fun _ _ _ hc _ _ _ _ _ _ _ _ _ _ _ _ _ _ _ ⟨hx, hb, _⟩ k => lv_pop hx hb d hc k
theorem oki_dup_x1 (d : decode D.2.1 pc = .ok (.dup_x1, 1)) : okDupX D pc (pc + 1) := fun _ _ _ _ hc hc2 _ _ _ _ _ _ _ _ _ _ _ _ _ _ _ ⟨hx, hb, _⟩ k => lv_dup_x1 hx hb d hc hc2 k
theorem oki_goto {off : Int} (d : decode D.2.1 pc = .ok (.goto off, 3)) (ht : (pc : Int) + off = (nx : Int)) : okGoto D pc nx := fun _ _ _ _ _ _ _ _ _ _ _ _ _ _ _ _ _ ⟨hx, hb, _⟩ k => lv_goto hx hb d ht k
theorem okb_iadd (d : decode D.2.1 pc = .ok (.iadd, 1)) : okBin D pc (pc + 1) 0 := fun _ _ _ _ _ hr _ _ _ _ _ _ _ _ _ _ _ _ _ _ _ ⟨hx, hb, _⟩ k => by cases hr; exact lv_iadd hx hb d k
theorem okb_isub (d : decode D.2.1 pc = .ok (.isub, 1)) : okBin D pc (pc + 1) 1 := fun _ _ _ _ _ hr _ _ _ _ _ _ _ _ _ _ _ _ _ _ _ ⟨hx, hb, _⟩ k => by cases hr; exact lv_isub hx hb d k
theorem okb_imul (d : decode D.2.1 pc = .ok (.imul, 1)) : okBin D pc (pc + 1) 2 := fun _ _ _ _ _ hr _ _ _ _ _ _ _ _ _ _ _ _ _ _ _ ⟨hx, hb, _⟩ k => by cases hr; exact lv_imul hx hb d k
theorem okb_idiv (d : decode D.2.1 pc = .ok (.idiv, 1)) : okBin D pc (pc + 1) 3 := fun _ _ _ _ _ ⟨h0, hr⟩ _ _ _ _ _ _ _ _ _ _ _ _ _ _ _ ⟨hx, hb, _⟩ k => by cases hr; exact lv_idiv hx hb d h0 k
theorem okb_irem (d : decode D.2.1 pc = .ok (.irem, 1)) : okBin D pc (pc + 1) 4 := fun _ _ _ _ _ ⟨h0, hr⟩ _ _ _ _ _ _ _ _ _ _ _ _ _ _ _ ⟨hx, hb, _⟩ k => by cases hr; exact lv_irem hx hb d h0 k
theorem okb_iand (d : decode D.2.1 pc = .ok (.iand, 1)) : okBin D pc (pc + 1) 5 := fun _ _ _ _ _ hr _ _ _ _ _ _ _ _ _ _ _ _ _ _ _ ⟨hx, hb, _⟩ k => by cases hr; exact lv_iand hx hb d k
theorem okb_ishr (d : decode D.2.1 pc = .ok (.ishr, 1)) : okBin D pc (pc + 1) 6 := fun _ _ _ _ _ hr _ _ _ _ _ _ _ _ _ _ _ _ _ _ _ ⟨hx, hb, _⟩ k => by cases hr; exact lv_ishr hx hb d k
theorem oku_i2c (d : decode D.2.1 pc = .ok (.i2c, 1)) : okUn D pc (pc + 1) 7 := fun _ _ _ _ hr _ _ _ _ _ _ _ _ _ _ _ _ _ _ _ ⟨hx, hb, _⟩ k => lv_i2c hx hb d hr.symm k
theorem oku_i2b (d : decode D.2.1 pc = .ok (.i2b, 1)) : okUn D pc (pc + 1) 8 := fun _ _ _ _ hr _ _ _ _ _ _ _ _ _ _ _ _ _ _ _ ⟨hx, hb, _⟩ k => lv_i2b hx hb d hr.symm k
theorem oku_ineg (d : decode D.2.1 pc = .ok (.ineg, 1)) : okUn D pc (pc + 1) 9 := fun _ _ _ _ hr _ _ _ _ _ _ _ _ _ _ _ _ _ _ _ ⟨hx, hb, _⟩ k => by cases hr; exact lv_ineg hx hb d k
theorem okj_eq {off : Int} (d : decode D.2.1 pc = .ok (.ifCond .eq off, 3)) (ht : (pc : Int) + off = (a : Int)) : okIf D pc (pc + 3) a 0 := fun _ _ _ _ _ _ _ _ _ _ _ _ _ _ _ _ _ _ ⟨hx, hb, _⟩ k k2 => lv_if_eq hx hb d ht k k2
theorem okj_ne {off : Int} (d : decode D.2.1 pc = .ok (.ifCond .ne off, 3)) (ht : (pc : Int) + off = (a : Int)) : okIf D pc (pc + 3) a 1 := fun _ _ _ _ _ _ _ _ _ _ _ _ _ _ _ _ _ _ ⟨hx, hb, _⟩ k k2 => lv_if_ne hx hb d ht k (fun q => k2 (fun r => r q))
theorem okj_lt {off : Int} (d : decode D.2.1 pc = .ok (.ifCond .lt off, 3)) (ht : (pc : Int) + off = (a : Int)) : okIf D pc (pc + 3) a 2 := fun _ _ _ _ _ _ _ _ _ _ _ _ _ _ _ _ _ _ ⟨hx, hb, _⟩ k k2 => lv_if_lt hx hb d ht k k2
theorem okj_ge {off : Int} (d : decode D.2.1 pc = .ok (.ifCond .ge off, 3)) (ht : (pc : Int) + off = (a : Int)) : okIf D pc (pc + 3) a 3 := fun _ _ _ _ _ _ _ _ _ _ _ _ _ _ _ _ _ _ ⟨hx, hb, _⟩ k k2 => lv_if_ge hx hb d ht k k2
theorem okj_gt {off : Int} (d : decode D.2.1 pc = .ok (.ifCond .gt off, 3)) (ht : (pc : Int) + off = (a : Int)) : okIf D pc (pc + 3) a 4 := fun _ _ _ _ _ _ _ _ _ _ _ _ _ _ _ _ _ _ ⟨hx, hb, _⟩ k k2 => lv_if_gt hx hb d ht k k2
theorem okj_le {off : Int} (d : decode D.2.1 pc = .ok (.ifCond .le off, 3)) (ht : (pc : Int) + off = (a : Int)) : okIf D pc (pc + 3) a 5 := fun _ _ _ _ _ _ _ _ _ _ _ _ _ _ _ _ _ _ ⟨hx, hb, _⟩ k k2 => lv_if_le hx hb d ht k k2
theorem okk_eq {off : Int} (d : decode D.2.1 pc = .ok (.if_icmp .eq off, 3)) (ht : (pc : Int) + off = (a : Int)) : okIcmp D pc (pc + 3) a 0 := fun _ _ _ _ _ _ _ _ _ _ _ _ _ _ _ _ _ _ _ ⟨hx, hb, _⟩ k k2 => lv_icmp_eq hx hb d ht k k2
theorem okk_ne {off : Int} (d : decode D.2.1 pc = .ok (.if_icmp .ne off, 3)) (ht : (pc : Int) + off = (a : Int)) : okIcmp D pc (pc + 3) a 1 := fun _ _ _ _ _ _ _ _ _ _ _ _ _ _ _ _ _ _ _ ⟨hx, hb, _⟩ k k2 => lv_icmp_ne hx hb d ht k (fun q => k2 (fun r => r q))
theorem okk_lt {off : Int} (d : decode D.2.1 pc = .ok (.if_icmp .lt off, 3)) (ht : (pc : Int) + off = (a : Int)) : okIcmp D pc (pc + 3) a 2 := fun _ _ _ _ _ _ _ _ _ _ _ _ _ _ _ _ _ _ _ ⟨hx, hb, _⟩ k k2 => lv_icmp_lt hx hb d ht k k2
theorem okk_ge {off : Int} (d : decode D.2.1 pc = .ok (.if_icmp .ge off, 3)) (ht : (pc : Int) + off = (a : Int)) : okIcmp D pc (pc + 3) a 3 := fun _ _ _ _ _ _ _ _ _ _ _ _ _ _ _ _ _ _ _ ⟨hx, hb, _⟩ k k2 => lv_icmp_ge hx hb d ht k k2
theorem okk_gt {off : Int} (d : decode D.2.1 pc = .ok (.if_icmp .gt off, 3)) (ht : (pc : Int) + off = (a : Int)) : okIcmp D pc (pc + 3) a 4 := fun _ _ _ _ _ _ _ _ _ _ _ _ _ _ _ _ _ _ _ ⟨hx, hb, _⟩ k k2 => lv_icmp_gt hx hb d ht k k2
theorem okk_le {off : Int} (d : decode D.2.1 pc = .ok (.if_icmp .le off, 3)) (ht : (pc : Int) + off = (a : Int)) : okIcmp D pc (pc + 3) a 5 := fun _ _ _ _ _ _ _ _ _ _ _ _ _ _ _ _ _ _ _ ⟨hx, hb, _⟩ k k2 => lv_icmp_le hx hb d ht k k2
theorem okm_ladd (d : decode D.2.1 pc = .ok (.ladd, 1)) : okLbin D pc (pc + 1) 0 := fun _ _ _ _ _ hr _ _ _ _ _ _ _ _ _ _ _ _ _ _ _ ⟨hx, hb, _⟩ k => by cases hr; exact lv_ladd hx hb d k
theorem okm_lsub (d : decode D.2.1 pc = .ok (.lsub, 1)) : okLbin D pc (pc + 1) 1 := fun _ _ _ _ _ hr _ _ _ _ _ _ _ _ _ _ _ _ _ _ _ ⟨hx, hb, _⟩ k => by cases hr; exact lv_lsub hx hb d k
theorem okm_lmul (d : decode D.2.1 pc = .ok (.lmul, 1)) : okLbin D pc (pc + 1) 2 := fun _ _ _ _ _ hr _ _ _ _ _ _ _ _ _ _ _ _ _ _ _ ⟨hx, hb, _⟩ k => by cases hr; exact lv_lmul hx hb d k
theorem okm_ldiv (d : decode D.2.1 pc = .ok (.ldiv, 1)) : okLbin D pc (pc + 1) 3 := fun _ _ _ _ _ ⟨h0, hr⟩ _ _ _ _ _ _ _ _ _ _ _ _ _ _ _ ⟨hx, hb, _⟩ k => by cases hr; exact lv_ldiv hx hb d h0 k
theorem okm_lcmp (d : decode D.2.1 pc = .ok (.lcmp, 1)) : okLbin D pc (pc + 1) 4 := fun _ _ _ _ _ hr _ _ _ _ _ _ _ _ _ _ _ _ _ _ _ ⟨hx, hb, _⟩ k => by cases hr; exact W.lcmp hx hb d k
theorem okm_i2l (d : decode D.2.1 pc = .ok (.i2l, 1)) : okI2l D pc (pc + 1) := fun _ _ _ _ _ _ _ _ _ _ _ _ _ _ _ _ _ _ ⟨hx, hb, _⟩ k => lv_i2l hx hb d rfl k
theorem okm_i2f (d : decode D.2.1 pc = .ok (.i2f, 1)) : okRw D pc (pc + 1) [.int (nI 0)] [.float (UInt32.ofNat 0)] := fun _ _ _ _ _ _ _ _ _ _ _ _ _ _ _ _ _ ⟨hx, hb, _⟩ k => lv_i2f hx hb d ((show FP.i2f (nI 0) = UInt32.ofNat 0 by decide +kernel) ▸ k)
theorem okm_fdiv (d : decode D.2.1 pc = .ok (.fdiv, 1)) : okRw D pc (pc + 1) [.float (UInt32.ofNat 1114636288), .float (UInt32.ofNat 0)] [.float (UInt32.ofNat 0)] := fun _ _ _ _ _ _ _ _ _ _ _ _ _ _ _ _ _ ⟨hx, hb, _⟩ k => lv_fdiv hx hb d (by unfold vf_n32; decide +kernel) ((show FP.fdiv (UInt32.ofNat 0) (UInt32.ofNat 1114636288) = UInt32.ofNat 0 by decide +kernel) ▸ k)
theorem okm_f2d (d : decode D.2.1 pc = .ok (.f2d, 1)) : okRw D pc (pc + 1) [.float (UInt32.ofNat 0)] [.double (UInt64.ofNat 0)] := fun _ _ _ _ _ _ _ _ _ _ _ _ _ _ _ _ _ ⟨hx, hb, _⟩ k => lv_f2d hx hb d (by unfold vf_n64; decide +kernel) ((show FP.f2d (UInt32.ofNat 0) = UInt64.ofNat 0 by decide +kernel) ▸ k)
theorem okm_dcmpl (d : decode D.2.1 pc = .ok (.dcmp .l, 1)) : okRw D pc (pc + 1) [.double (UInt64.ofNat 0), .double (UInt64.ofNat 0)] [.int (nI 0)] := fun _ _ _ _ _ _ _ _ _ _ _ _ _ _ _ _ _ ⟨hx, hb, _⟩ k => lv_dcmp hx hb d ((show Op.cmpValue (FP.dcmp (UInt64.ofNat 0) (UInt64.ofNat 0)) .l = nI 0 by decide +kernel) ▸ k)
end OKS
end
