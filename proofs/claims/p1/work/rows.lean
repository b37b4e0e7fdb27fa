section
-- ===== PART A: goes FIRST, ahead of the names: the tables' words, and 'selects' of the private methods out of them =====
/-- a private method of a class that the tables say can be made, by its rows of tables_1 -/
def lw_okq (q : MethodName × Nat) : Prop := (q.1.cls ≠ "java/lang/invoke/MethodHandle" ∧ q.1.cls ≠ "java/lang/invoke/VarHandle") ∧ Cond.instantiable q.1.cls q.2 ∈ tables_1 ∧ Cond.privateMethod q.1 ∈ tables_1 ∧ Cond.instanceMethod q.1 ∈ tables_1
theorem lw_p0 : lw_okq (⟨"PitForge$Ground", "wasAhead", "(II)Z"⟩, 4) := ⟨⟨by decide +kernel, by decide +kernel⟩, List.mem_of_getElem? (i := 53) (by decide +kernel), List.mem_of_getElem? (i := 378) (by decide +kernel), List.mem_of_getElem? (i := 379) (by decide +kernel)⟩
theorem lw_p1 : lw_okq (⟨"java/lang/Throwable", "fillInStackTrace", "(I)Ljava/lang/Throwable;"⟩, 6) := ⟨⟨by decide +kernel, by decide +kernel⟩, List.mem_of_getElem? (i := 424) (by decide +kernel), List.mem_of_getElem? (i := 422) (by decide +kernel), List.mem_of_getElem? (i := 423) (by decide +kernel)⟩
theorem lw_p2 : lw_okq (⟨"PitForge", "requireUndug", "(I)V"⟩, 9) := ⟨⟨by decide +kernel, by decide +kernel⟩, List.mem_of_getElem? (i := 45) (by decide +kernel), List.mem_of_getElem? (i := 509) (by decide +kernel), List.mem_of_getElem? (i := 510) (by decide +kernel)⟩
theorem lw_p3 : lw_okq (⟨"PitForge$Ore", "meanFor", "(I)D"⟩, 4) := ⟨⟨by decide +kernel, by decide +kernel⟩, List.mem_of_getElem? (i := 75) (by decide +kernel), List.mem_of_getElem? (i := 604) (by decide +kernel), List.mem_of_getElem? (i := 605) (by decide +kernel)⟩
theorem lw_p4 : lw_okq (⟨"PitForge$Ore", "meanByDistance", "(I)D"⟩, 4) := ⟨⟨by decide +kernel, by decide +kernel⟩, List.mem_of_getElem? (i := 75) (by decide +kernel), List.mem_of_getElem? (i := 608) (by decide +kernel), List.mem_of_getElem? (i := 609) (by decide +kernel)⟩
theorem lw_p5 : lw_okq (⟨"PitForge$PitSearch", "measure", "(II)V"⟩, 10) := ⟨⟨by decide +kernel, by decide +kernel⟩, List.mem_of_getElem? (i := 95) (by decide +kernel), List.mem_of_getElem? (i := 666) (by decide +kernel), List.mem_of_getElem? (i := 667) (by decide +kernel)⟩
theorem lw_p6 : lw_okq (⟨"PitForge$PitSearch", "joinLeft", "(I)V"⟩, 10) := ⟨⟨by decide +kernel, by decide +kernel⟩, List.mem_of_getElem? (i := 95) (by decide +kernel), List.mem_of_getElem? (i := 677) (by decide +kernel), List.mem_of_getElem? (i := 678) (by decide +kernel)⟩
theorem lw_p7 : lw_okq (⟨"PitForge$PitSearch", "bestDepth", "(III)I"⟩, 10) := ⟨⟨by decide +kernel, by decide +kernel⟩, List.mem_of_getElem? (i := 95) (by decide +kernel), List.mem_of_getElem? (i := 681) (by decide +kernel), List.mem_of_getElem? (i := 682) (by decide +kernel)⟩
theorem lw_p8 : lw_okq (⟨"PitForge$PitSearch", "readDepths", "(I)V"⟩, 10) := ⟨⟨by decide +kernel, by decide +kernel⟩, List.mem_of_getElem? (i := 95) (by decide +kernel), List.mem_of_getElem? (i := 685) (by decide +kernel), List.mem_of_getElem? (i := 686) (by decide +kernel)⟩
theorem lw_p9 : lw_okq (⟨"PitForge$PitSearch", "markNeeded", "(I)V"⟩, 10) := ⟨⟨by decide +kernel, by decide +kernel⟩, List.mem_of_getElem? (i := 95) (by decide +kernel), List.mem_of_getElem? (i := 721) (by decide +kernel), List.mem_of_getElem? (i := 722) (by decide +kernel)⟩
theorem lw_p10 : lw_okq (⟨"PitForge$Phases", "numberFound", "(I)V"⟩, 6) := ⟨⟨by decide +kernel, by decide +kernel⟩, List.mem_of_getElem? (i := 136) (by decide +kernel), List.mem_of_getElem? (i := 761) (by decide +kernel), List.mem_of_getElem? (i := 762) (by decide +kernel)⟩
theorem lw_p11 : lw_okq (⟨"PitForge", "passWeek", "()V"⟩, 9) := ⟨⟨by decide +kernel, by decide +kernel⟩, List.mem_of_getElem? (i := 45) (by decide +kernel), List.mem_of_getElem? (i := 808) (by decide +kernel), List.mem_of_getElem? (i := 809) (by decide +kernel)⟩
theorem lw_p12 : lw_okq (⟨"PitForge", "dryLevels", "()I"⟩, 9) := ⟨⟨by decide +kernel, by decide +kernel⟩, List.mem_of_getElem? (i := 45) (by decide +kernel), List.mem_of_getElem? (i := 816) (by decide +kernel), List.mem_of_getElem? (i := 817) (by decide +kernel)⟩
theorem lw_p13 : lw_okq (⟨"PitForge", "nextBlock", "(I)I"⟩, 9) := ⟨⟨by decide +kernel, by decide +kernel⟩, List.mem_of_getElem? (i := 45) (by decide +kernel), List.mem_of_getElem? (i := 827) (by decide +kernel), List.mem_of_getElem? (i := 828) (by decide +kernel)⟩
theorem lw_p14 : lw_okq (⟨"PitForge", "digOut", "(I)V"⟩, 9) := ⟨⟨by decide +kernel, by decide +kernel⟩, List.mem_of_getElem? (i := 45) (by decide +kernel), List.mem_of_getElem? (i := 831) (by decide +kernel), List.mem_of_getElem? (i := 832) (by decide +kernel)⟩
theorem lw_p15 : lw_okq (⟨"PitForge", "haul", "(II)V"⟩, 9) := ⟨⟨by decide +kernel, by decide +kernel⟩, List.mem_of_getElem? (i := 45) (by decide +kernel), List.mem_of_getElem? (i := 844) (by decide +kernel), List.mem_of_getElem? (i := 845) (by decide +kernel)⟩
def lw_privs_1 : List (MethodName × Nat) := [(⟨"PitForge$Ground", "wasAhead", "(II)Z"⟩, 4), (⟨"java/lang/Throwable", "fillInStackTrace", "(I)Ljava/lang/Throwable;"⟩, 6), (⟨"PitForge", "requireUndug", "(I)V"⟩, 9), (⟨"PitForge$Ore", "meanFor", "(I)D"⟩, 4), (⟨"PitForge$Ore", "meanByDistance", "(I)D"⟩, 4), (⟨"PitForge$PitSearch", "measure", "(II)V"⟩, 10), (⟨"PitForge$PitSearch", "joinLeft", "(I)V"⟩, 10), (⟨"PitForge$PitSearch", "bestDepth", "(III)I"⟩, 10), (⟨"PitForge$PitSearch", "readDepths", "(I)V"⟩, 10), (⟨"PitForge$PitSearch", "markNeeded", "(I)V"⟩, 10), (⟨"PitForge$Phases", "numberFound", "(I)V"⟩, 6), (⟨"PitForge", "passWeek", "()V"⟩, 9), (⟨"PitForge", "dryLevels", "()I"⟩, 9), (⟨"PitForge", "nextBlock", "(I)I"⟩, 9), (⟨"PitForge", "digOut", "(I)V"⟩, 9), (⟨"PitForge", "haul", "(II)V"⟩, 9)]
theorem lw_r1 : ∀ q ∈ lw_privs_1, lw_okq q := List.forall_mem_cons.mpr ⟨lw_p0, List.forall_mem_cons.mpr ⟨lw_p1, List.forall_mem_cons.mpr ⟨lw_p2, List.forall_mem_cons.mpr ⟨lw_p3, List.forall_mem_cons.mpr ⟨lw_p4, List.forall_mem_cons.mpr ⟨lw_p5, List.forall_mem_cons.mpr ⟨lw_p6, List.forall_mem_cons.mpr ⟨lw_p7, List.forall_mem_cons.mpr ⟨lw_p8, List.forall_mem_cons.mpr ⟨lw_p9, List.forall_mem_cons.mpr ⟨lw_p10, List.forall_mem_cons.mpr ⟨lw_p11, List.forall_mem_cons.mpr ⟨lw_p12, List.forall_mem_cons.mpr ⟨lw_p13, List.forall_mem_cons.mpr ⟨lw_p14, List.forall_mem_cons.mpr ⟨lw_p15, fun _ h => absurd h List.not_mem_nil⟩⟩⟩⟩⟩⟩⟩⟩⟩⟩⟩⟩⟩⟩⟩⟩
theorem lw_p16 : lw_okq (⟨"PitForge", "feedFromPile", "()V"⟩, 9) := ⟨⟨by decide +kernel, by decide +kernel⟩, List.mem_of_getElem? (i := 45) (by decide +kernel), List.mem_of_getElem? (i := 860) (by decide +kernel), List.mem_of_getElem? (i := 861) (by decide +kernel)⟩
theorem lw_p17 : lw_okq (⟨"PitForge$Pile", "heapUp", "()V"⟩, 7) := ⟨⟨by decide +kernel, by decide +kernel⟩, List.mem_of_getElem? (i := 172) (by decide +kernel), List.mem_of_getElem? (i := 868) (by decide +kernel), List.mem_of_getElem? (i := 869) (by decide +kernel)⟩
theorem lw_p18 : lw_okq (⟨"PitForge$Pile", "giveOfHeap", "()I"⟩, 7) := ⟨⟨by decide +kernel, by decide +kernel⟩, List.mem_of_getElem? (i := 172) (by decide +kernel), List.mem_of_getElem? (i := 874) (by decide +kernel), List.mem_of_getElem? (i := 875) (by decide +kernel)⟩
theorem lw_p19 : lw_okq (⟨"PitForge$Pile", "giveLayer", "()I"⟩, 7) := ⟨⟨by decide +kernel, by decide +kernel⟩, List.mem_of_getElem? (i := 172) (by decide +kernel), List.mem_of_getElem? (i := 878) (by decide +kernel), List.mem_of_getElem? (i := 879) (by decide +kernel)⟩
theorem lw_p20 : lw_okq (⟨"PitForge$Plant", "recoveryAt", "(D)I"⟩, 9) := ⟨⟨by decide +kernel, by decide +kernel⟩, List.mem_of_getElem? (i := 201) (by decide +kernel), List.mem_of_getElem? (i := 886) (by decide +kernel), List.mem_of_getElem? (i := 887) (by decide +kernel)⟩
theorem lw_p21 : lw_okq (⟨"PitForge", "requireDug", "(I)V"⟩, 9) := ⟨⟨by decide +kernel, by decide +kernel⟩, List.mem_of_getElem? (i := 45) (by decide +kernel), List.mem_of_getElem? (i := 910) (by decide +kernel), List.mem_of_getElem? (i := 911) (by decide +kernel)⟩
theorem lw_p22 : lw_okq (⟨"java/util/ArrayList", "add", "(Ljava/lang/Object;[Ljava/lang/Object;I)V"⟩, 3) := ⟨⟨by decide +kernel, by decide +kernel⟩, List.mem_of_getElem? (i := 1001) (by decide +kernel), List.mem_of_getElem? (i := 1064) (by decide +kernel), List.mem_of_getElem? (i := 1065) (by decide +kernel)⟩
theorem lw_p23 : lw_okq (⟨"java/util/ArrayList", "grow", "()[Ljava/lang/Object;"⟩, 3) := ⟨⟨by decide +kernel, by decide +kernel⟩, List.mem_of_getElem? (i := 1001) (by decide +kernel), List.mem_of_getElem? (i := 1068) (by decide +kernel), List.mem_of_getElem? (i := 1069) (by decide +kernel)⟩
theorem lw_p24 : lw_okq (⟨"java/util/ArrayList", "grow", "(I)[Ljava/lang/Object;"⟩, 3) := ⟨⟨by decide +kernel, by decide +kernel⟩, List.mem_of_getElem? (i := 1001) (by decide +kernel), List.mem_of_getElem? (i := 1072) (by decide +kernel), List.mem_of_getElem? (i := 1073) (by decide +kernel)⟩
theorem lw_p25 : lw_okq (⟨"PitForgeModel", "isWrong", "(I)Z"⟩, 23) := ⟨⟨by decide +kernel, by decide +kernel⟩, List.mem_of_getElem? (i := 995) (by decide +kernel), List.mem_of_getElem? (i := 1227) (by decide +kernel), List.mem_of_getElem? (i := 1228) (by decide +kernel)⟩
theorem lw_p26 : lw_okq (⟨"PitForgeModel", "gradeOf", "(I)I"⟩, 23) := ⟨⟨by decide +kernel, by decide +kernel⟩, List.mem_of_getElem? (i := 995) (by decide +kernel), List.mem_of_getElem? (i := 1267) (by decide +kernel), List.mem_of_getElem? (i := 1268) (by decide +kernel)⟩
theorem lw_p27 : lw_okq (⟨"PitForgeModel", "worthOf", "(II)I"⟩, 23) := ⟨⟨by decide +kernel, by decide +kernel⟩, List.mem_of_getElem? (i := 995) (by decide +kernel), List.mem_of_getElem? (i := 1370) (by decide +kernel), List.mem_of_getElem? (i := 1371) (by decide +kernel)⟩
theorem lw_p28 : lw_okq (⟨"PitForgeModel", "liesFree", "(I)Z"⟩, 23) := ⟨⟨by decide +kernel, by decide +kernel⟩, List.mem_of_getElem? (i := 995) (by decide +kernel), List.mem_of_getElem? (i := 1382) (by decide +kernel), List.mem_of_getElem? (i := 1383) (by decide +kernel)⟩
theorem lw_p29 : lw_okq (⟨"PitForgeModel", "above", "(I)Ljava/util/List;"⟩, 23) := ⟨⟨by decide +kernel, by decide +kernel⟩, List.mem_of_getElem? (i := 995) (by decide +kernel), List.mem_of_getElem? (i := 1386) (by decide +kernel), List.mem_of_getElem? (i := 1387) (by decide +kernel)⟩
theorem lw_p30 : lw_okq (⟨"PitForgeModel$Flow", "way", "()[I"⟩, 3) := ⟨⟨by decide +kernel, by decide +kernel⟩, List.mem_of_getElem? (i := 1423) (by decide +kernel), List.mem_of_getElem? (i := 1444) (by decide +kernel), List.mem_of_getElem? (i := 1445) (by decide +kernel)⟩
theorem lw_p31 : lw_okq (⟨"PitForgeModel", "phasesNow", "()[I"⟩, 23) := ⟨⟨by decide +kernel, by decide +kernel⟩, List.mem_of_getElem? (i := 995) (by decide +kernel), List.mem_of_getElem? (i := 1496) (by decide +kernel), List.mem_of_getElem? (i := 1497) (by decide +kernel)⟩
def lw_privs_2 : List (MethodName × Nat) := [(⟨"PitForge", "feedFromPile", "()V"⟩, 9), (⟨"PitForge$Pile", "heapUp", "()V"⟩, 7), (⟨"PitForge$Pile", "giveOfHeap", "()I"⟩, 7), (⟨"PitForge$Pile", "giveLayer", "()I"⟩, 7), (⟨"PitForge$Plant", "recoveryAt", "(D)I"⟩, 9), (⟨"PitForge", "requireDug", "(I)V"⟩, 9), (⟨"java/util/ArrayList", "add", "(Ljava/lang/Object;[Ljava/lang/Object;I)V"⟩, 3), (⟨"java/util/ArrayList", "grow", "()[Ljava/lang/Object;"⟩, 3), (⟨"java/util/ArrayList", "grow", "(I)[Ljava/lang/Object;"⟩, 3), (⟨"PitForgeModel", "isWrong", "(I)Z"⟩, 23), (⟨"PitForgeModel", "gradeOf", "(I)I"⟩, 23), (⟨"PitForgeModel", "worthOf", "(II)I"⟩, 23), (⟨"PitForgeModel", "liesFree", "(I)Z"⟩, 23), (⟨"PitForgeModel", "above", "(I)Ljava/util/List;"⟩, 23), (⟨"PitForgeModel$Flow", "way", "()[I"⟩, 3), (⟨"PitForgeModel", "phasesNow", "()[I"⟩, 23)]
theorem lw_r2 : ∀ q ∈ lw_privs_2, lw_okq q := List.forall_mem_cons.mpr ⟨lw_p16, List.forall_mem_cons.mpr ⟨lw_p17, List.forall_mem_cons.mpr ⟨lw_p18, List.forall_mem_cons.mpr ⟨lw_p19, List.forall_mem_cons.mpr ⟨lw_p20, List.forall_mem_cons.mpr ⟨lw_p21, List.forall_mem_cons.mpr ⟨lw_p22, List.forall_mem_cons.mpr ⟨lw_p23, List.forall_mem_cons.mpr ⟨lw_p24, List.forall_mem_cons.mpr ⟨lw_p25, List.forall_mem_cons.mpr ⟨lw_p26, List.forall_mem_cons.mpr ⟨lw_p27, List.forall_mem_cons.mpr ⟨lw_p28, List.forall_mem_cons.mpr ⟨lw_p29, List.forall_mem_cons.mpr ⟨lw_p30, List.forall_mem_cons.mpr ⟨lw_p31, fun _ h => absurd h List.not_mem_nil⟩⟩⟩⟩⟩⟩⟩⟩⟩⟩⟩⟩⟩⟩⟩⟩
theorem lw_p32 : lw_okq (⟨"PitForgeModel", "dug", "()I"⟩, 23) := ⟨⟨by decide +kernel, by decide +kernel⟩, List.mem_of_getElem? (i := 995) (by decide +kernel), List.mem_of_getElem? (i := 1600) (by decide +kernel), List.mem_of_getElem? (i := 1601) (by decide +kernel)⟩
theorem lw_p33 : lw_okq (⟨"PitForgeModel", "aWeek", "()V"⟩, 23) := ⟨⟨by decide +kernel, by decide +kernel⟩, List.mem_of_getElem? (i := 995) (by decide +kernel), List.mem_of_getElem? (i := 1604) (by decide +kernel), List.mem_of_getElem? (i := 1605) (by decide +kernel)⟩
theorem lw_p34 : lw_okq (⟨"PitForgeModel", "flooded", "()I"⟩, 23) := ⟨⟨by decide +kernel, by decide +kernel⟩, List.mem_of_getElem? (i := 995) (by decide +kernel), List.mem_of_getElem? (i := 1608) (by decide +kernel), List.mem_of_getElem? (i := 1609) (by decide +kernel)⟩
theorem lw_p35 : lw_okq (⟨"PitForgeModel", "toldOf", "(C)I"⟩, 23) := ⟨⟨by decide +kernel, by decide +kernel⟩, List.mem_of_getElem? (i := 995) (by decide +kernel), List.mem_of_getElem? (i := 1612) (by decide +kernel), List.mem_of_getElem? (i := 1613) (by decide +kernel)⟩
theorem lw_p36 : lw_okq (⟨"PitForgeModel", "next", "(I[I)I"⟩, 23) := ⟨⟨by decide +kernel, by decide +kernel⟩, List.mem_of_getElem? (i := 995) (by decide +kernel), List.mem_of_getElem? (i := 1616) (by decide +kernel), List.mem_of_getElem? (i := 1617) (by decide +kernel)⟩
theorem lw_p37 : lw_okq (⟨"PitForgeModel", "digs", "(ILjava/util/List;I)V"⟩, 23) := ⟨⟨by decide +kernel, by decide +kernel⟩, List.mem_of_getElem? (i := 995) (by decide +kernel), List.mem_of_getElem? (i := 1620) (by decide +kernel), List.mem_of_getElem? (i := 1621) (by decide +kernel)⟩
theorem lw_p38 : lw_okq (⟨"PitForgeModel", "given", "()I"⟩, 23) := ⟨⟨by decide +kernel, by decide +kernel⟩, List.mem_of_getElem? (i := 995) (by decide +kernel), List.mem_of_getElem? (i := 1624) (by decide +kernel), List.mem_of_getElem? (i := 1625) (by decide +kernel)⟩
theorem lw_p39 : lw_okq (⟨"java/util/ArrayList", "fastRemove", "([Ljava/lang/Object;I)V"⟩, 3) := ⟨⟨by decide +kernel, by decide +kernel⟩, List.mem_of_getElem? (i := 1001) (by decide +kernel), List.mem_of_getElem? (i := 1637) (by decide +kernel), List.mem_of_getElem? (i := 1638) (by decide +kernel)⟩
theorem lw_p40 : lw_okq (⟨"PitForgeModel", "mills", "(Ljava/util/List;)V"⟩, 23) := ⟨⟨by decide +kernel, by decide +kernel⟩, List.mem_of_getElem? (i := 995) (by decide +kernel), List.mem_of_getElem? (i := 1642) (by decide +kernel), List.mem_of_getElem? (i := 1643) (by decide +kernel)⟩
theorem lw_p41 : lw_okq (⟨"PitForgeModel", "isNotDug", "(I)Z"⟩, 23) := ⟨⟨by decide +kernel, by decide +kernel⟩, List.mem_of_getElem? (i := 995) (by decide +kernel), List.mem_of_getElem? (i := 1666) (by decide +kernel), List.mem_of_getElem? (i := 1667) (by decide +kernel)⟩
def lw_privs_3 : List (MethodName × Nat) := [(⟨"PitForgeModel", "dug", "()I"⟩, 23), (⟨"PitForgeModel", "aWeek", "()V"⟩, 23), (⟨"PitForgeModel", "flooded", "()I"⟩, 23), (⟨"PitForgeModel", "toldOf", "(C)I"⟩, 23), (⟨"PitForgeModel", "next", "(I[I)I"⟩, 23), (⟨"PitForgeModel", "digs", "(ILjava/util/List;I)V"⟩, 23), (⟨"PitForgeModel", "given", "()I"⟩, 23), (⟨"java/util/ArrayList", "fastRemove", "([Ljava/lang/Object;I)V"⟩, 3), (⟨"PitForgeModel", "mills", "(Ljava/util/List;)V"⟩, 23), (⟨"PitForgeModel", "isNotDug", "(I)Z"⟩, 23)]
theorem lw_r3 : ∀ q ∈ lw_privs_3, lw_okq q := List.forall_mem_cons.mpr ⟨lw_p32, List.forall_mem_cons.mpr ⟨lw_p33, List.forall_mem_cons.mpr ⟨lw_p34, List.forall_mem_cons.mpr ⟨lw_p35, List.forall_mem_cons.mpr ⟨lw_p36, List.forall_mem_cons.mpr ⟨lw_p37, List.forall_mem_cons.mpr ⟨lw_p38, List.forall_mem_cons.mpr ⟨lw_p39, List.forall_mem_cons.mpr ⟨lw_p40, List.forall_mem_cons.mpr ⟨lw_p41, fun _ h => absurd h List.not_mem_nil⟩⟩⟩⟩⟩⟩⟩⟩⟩⟩
def lw_privs : List (MethodName × Nat) := lw_privs_1 ++ (lw_privs_2 ++ (lw_privs_3))
def lw_tbl : List Cond := k2_sels lw_privs ++ tables_1
theorem lw_privs_ok : ∀ q ∈ lw_privs, lw_okq q := by
  show ∀ q ∈ lw_privs_1 ++ (lw_privs_2 ++ (lw_privs_3)), lw_okq q
  exact List.forall_mem_append.mpr ⟨lw_r1, List.forall_mem_append.mpr ⟨lw_r2, lw_r3⟩⟩
/-- the streams that the claim lets the run draw from -/
abbrev lw_cs : List Choice := [Jvm.Choice.named "NaN.bits", Jvm.Choice.named "NaN.copy"]
theorem lw_bits : nanBits ∈ lw_cs := by first | decide | exact List.mem_cons_self | simp [lw_cs, nanBits]
-- ===== end of PART A; then your names; then what follows =====
end
section
/-! AN ABSTRACT MACHINE, evaluated by the kernel; the walk of a method follows it (its soundness: part 40).
A value is (tag, number): 0 an int (below 2^32), 1 null, 2 a cell of the world (its place), 3 a thing given at the start, 4 an unknown int, 5 a long, 6 a double's bits, 7 a float's bits.
A cell is (0, class, fields) or (1, type, components). -/
abbrev eV : Type := Nat × Nat
abbrev eC : Type := Nat × Nat × List eV
abbrev eH : Type := List eC
abbrev eL : Type := List (Nat × eV)
abbrev eO : Type := Nat × Nat × Nat × Nat × Nat
/-- what is known of the unknown ints: bounds (moved by 2^31), and results of operations (operation, unknown, number, result) -/
abbrev eG : Type := List (Nat × Nat) × List (Nat × Nat × Nat × Nat)
/-- a step's end: pc, locals, stack, heap, new cells, new slots, frames and words that it needs -/
abbrev eS : Type := Nat × eL × List eV × eH × Nat × Nat × Nat × Nat
def e_get {α : Type} : List α → Nat → Option α
  | [], _ => none
  | a :: _, 0 => some a
  | _ :: t, n + 1 => e_get t n
def e_b (n : Nat) : Nat := (n + 2147483648) % 4294967296
def e_B (n : Nat) : Nat := (n + 9223372036854775808) % 18446744073709551616
def e_rng (G : eG) (v : eV) : Option (Nat × Nat) := match v with
  | (0, n) => some (e_b n, e_b n)
  | (4, k) => e_get G.1 k
  | _ => none
def e_lt (G : eG) (a b : eV) : Option Bool := match e_rng G a, e_rng G b with
  | some (la, ha), some (lb, hb) => bif Nat.blt ha lb then some true else bif Nat.ble hb la then some false else none
  | _, _ => none
def e_eq (G : eG) (a b : eV) : Option Bool := match e_rng G a, e_rng G b with
  | some (la, ha), some (lb, hb) => bif Nat.blt ha lb || Nat.blt hb la then some false else bif Nat.beq la ha && (Nat.beq lb hb && Nat.beq la lb) then some true else none
  | _, _ => none
def e_not : Option Bool → Option Bool
  | some b => some (bif b then false else true)
  | none => none
def e_cond (G : eG) (i : Nat) (a b : eV) : Option Bool := match i with
  | 0 => e_eq G a b
  | 1 => e_not (e_eq G a b)
  | 2 => e_lt G a b
  | 3 => e_not (e_lt G a b)
  | 4 => e_lt G b a
  | 5 => e_not (e_lt G b a)
  | _ => none
def e_fact (l : List (Nat × Nat × Nat × Nat)) (o k c : Nat) : Option Nat := match l with
  | [] => none
  | (o', k', c', r) :: t => bif Nat.beq o o' && (Nat.beq k k' && Nat.beq c c') then some r else e_fact t o k c
/-- two ints -/
def e_bin (G : eG) (i : Nat) (x y : eV) : Option eV := match x, y with
  | (0, a), (0, b) => match i with
    | 0 => some (0, (a + b) % 4294967296)
    | 1 => some (0, (a + (4294967296 - b % 4294967296)) % 4294967296)
    | 2 => some (0, a * b % 4294967296)
    | 3 => bif Nat.blt a 2147483648 && (Nat.blt 0 b && Nat.blt b 2147483648) then some (0, a / b) else none
    | 4 => bif Nat.blt a 2147483648 && (Nat.blt 0 b && Nat.blt b 2147483648) then some (0, a % b) else none
    | 5 => some (0, Nat.land a b)
    | 6 => bif Nat.blt a 2147483648 && Nat.blt b 31 then some (0, a / 2 ^ b) else none
    | _ => none
  | (0, 0), (4, _) => match i with
    | 2 => some (0, 0)
    | _ => none
  | (4, k), (0, b) => bif Nat.ble i 6 then (match e_fact G.2 i k b with
    | some r => some (4, r)
    | none => none) else none
  | _, _ => none
/-- one int; 7: its char, 8: its byte, 9: its negative -/
def e_un (G : eG) (i : Nat) (x : eV) : Option eV := match x with
  | (0, a) => match i with
    | 7 => some (0, a % 65536)
    | 8 => bif Nat.blt (a % 256) 128 then some (0, a % 256) else some (0, 4294967040 + a % 256)
    | 9 => some (0, (4294967296 - a % 4294967296) % 4294967296)
    | _ => none
  | (4, k) => bif Nat.ble 7 i then (match e_fact G.2 i k 0 with
    | some r => some (4, r)
    | none => none) else none
  | _ => none
def e_i2l (a : Nat) : Nat := bif Nat.blt (a % 4294967296) 2147483648 then a % 4294967296 else a % 4294967296 + 18446744069414584320
def e_lbin (i a b : Nat) : Option eV := match i with
  | 0 => some (5, (a + b) % 18446744073709551616)
  | 1 => some (5, (a + (18446744073709551616 - b % 18446744073709551616)) % 18446744073709551616)
  | 2 => some (5, a * b % 18446744073709551616)
  | 3 => bif Nat.blt a 9223372036854775808 && (Nat.blt 0 b && Nat.blt b 9223372036854775808) then some (5, a / b) else none
  | 4 => some (0, bif Nat.blt (e_B a) (e_B b) then 4294967295 else bif Nat.blt (e_B b) (e_B a) then 1 else 0)
  | _ => none
def e_isI (v : eV) : Bool := Nat.beq v.1 0 || Nat.beq v.1 4
def e_isR (v : eV) : Bool := Nat.beq v.1 2 || Nat.beq v.1 3
def e_isQ (v : eV) : Bool := Nat.beq v.1 1 || e_isR v
def e_wide (v : eV) : Bool := Nat.beq v.1 5 || Nat.beq v.1 6
def e_cat : List eV → Nat
  | [] => 0
  | v :: t => (bif e_wide v then 2 else 1) + e_cat t
def e_look (ls : eL) (i : Nat) : Option eV := match ls with
  | [] => none
  | (j, v) :: t => bif Nat.beq j i then some v else e_look t i
def e_drop1 (i : Nat) : eL → eL
  | [] => []
  | (j, v) :: t => bif Nat.beq j i || (Nat.beq (j + 1) i && e_wide v) then e_drop1 i t else (j, v) :: e_drop1 i t
def e_drop2 (i : Nat) : eL → eL
  | [] => []
  | (j, v) :: t => bif Nat.beq j i || (Nat.beq j (i + 1) || (Nat.beq (j + 1) i && e_wide v)) then e_drop2 i t else (j, v) :: e_drop2 i t
/-- locals: 0 int, 1 reference, 2 long, 3 double -/
def e_kind (i : Nat) (v : eV) : Bool := match i with
  | 0 => e_isI v
  | 1 => e_isR v
  | 2 => Nat.beq v.1 5
  | 3 => Nat.beq v.1 6
  | _ => false
def e_rep {α : Type} (x : α) : Nat → List α
  | 0 => []
  | n + 1 => x :: e_rep x n
/-- a type's default: 3 long, 4 double, 6 and above references, else ints -/
def e_dflt (t : Nat) : eV := match t with
  | 3 => (5, 0)
  | 4 => (6, 0)
  | 6 => (1, 0)
  | 7 => (1, 0)
  | _ => (0, 0)
def e_tyok (t : Nat) (v : eV) : Bool := match t with
  | 3 => Nat.beq v.1 5
  | 4 => Nat.beq v.1 6
  | 6 => e_isQ v
  | 7 => e_isQ v
  | _ => e_isI v
/-- a store into a field or an array of a narrow type: it must fit -/
def e_fit (G : eG) (t : Nat) (v : eV) : Bool := match t with
  | 0 => e_isI v
  | 1 => match v with
    | (0, n) => Nat.blt n 2
    | _ => false
  | 2 => match e_rng G v with
    | some (lo, hi) => Nat.ble 2147483648 lo && Nat.blt hi 2147549184
    | none => false
  | 3 => Nat.beq v.1 5
  | 4 => Nat.beq v.1 6
  | 6 => e_isQ v
  | 7 => e_isQ v
  | _ => false
/-- n rows of int[k], from the place i on -/
def e_rows (i n : Nat) : List eV := match n with
  | 0 => []
  | n + 1 => (2, i) :: e_rows (i + 1) n
/-- two references: one thing or two (things of the world are new: never one given at the start) -/
def e_same (x y : eV) : Option Bool := match x, y with
  | (2, a), (2, b) => some (Nat.beq a b)
  | (3, a), (3, b) => bif Nat.beq a b then some true else none
  | (2, _), (3, _) => some false
  | (3, _), (2, _) => some false
  | _, _ => none
/-- a call's locals -/
def e_args : Nat → List eV → eL
  | _, [] => []
  | i, v :: t => (i, v) :: e_args (bif e_wide v then i + 2 else i + 1) t
end
section
/-! what the abstract values mean -/
/-- the given things' addresses, the unknown ints -/
abbrev eX : Type := (Nat → Nat) × (Nat → Int32)
def c_I (X : eX) (v : eV) : Int32 := match v with
  | (0, n) => nI n
  | (4, k) => X.2 k
  | _ => 0
def c_v (X : eX) (ρ : Nat → Nat) (v : eV) : Value := match v with
  | (0, n) => .int (nI n)
  | (1, _) => .null
  | (2, k) => .ref (ρ k)
  | (3, k) => .ref (X.1 k)
  | (4, k) => .int (X.2 k)
  | (5, n) => .long (lN n)
  | (6, n) => .double (UInt64.ofNat n)
  | (7, n) => .float (UInt32.ofNat n)
  | _ => .null
theorem e_get_eq {α : Type} : ∀ (l : List α) (n : Nat), e_get l n = l[n]?
  | [], n => by cases n <;> rfl
  | a :: _, 0 => rfl
  | _ :: t, n + 1 => by
    show e_get t n = _
    rw [e_get_eq t n]
    rfl
def e_bx (x : Int32) : Nat := (x.toBitVec.toNat + 2147483648) % 4294967296
theorem nI_nat (n : Nat) : (nI n).toBitVec.toNat = n % 4294967296 := by
  show (Int32.ofNat n).toBitVec.toNat = _
  simp
theorem nI_mod (n : Nat) : nI (n % 4294967296) = nI n := by
  apply Int32.toBitVec_inj.mp
  apply BitVec.eq_of_toNat_eq
  rw [nI_nat, nI_nat, Nat.mod_mod]
theorem e_bx_nI (n : Nat) : e_bx (nI n) = e_b n := by
  unfold e_bx e_b
  rw [nI_nat]
  omega
theorem e_bx_toInt (x : Int32) : (e_bx x : Int) = x.toInt + 2147483648 := by
  have h : x.toInt = if 2 * x.toBitVec.toNat < 4294967296 then (x.toBitVec.toNat : Int) else (x.toBitVec.toNat : Int) - 4294967296 := by
    show x.toBitVec.toInt = _
    rw [BitVec.toInt_eq_toNat_cond]
    rfl
  have h2 : x.toBitVec.toNat < 4294967296 := x.toBitVec.isLt
  unfold e_bx
  rw [h]
  split <;> omega
theorem e_bx_lt {x y : Int32} : x < y ↔ e_bx x < e_bx y := by
  rw [Int32.lt_iff_toInt_lt]
  have h1 := e_bx_toInt x
  have h2 := e_bx_toInt y
  omega
theorem e_bx_le {x y : Int32} : x ≤ y ↔ e_bx x ≤ e_bx y := by
  rw [Int32.le_iff_toInt_le]
  have h1 := e_bx_toInt x
  have h2 := e_bx_toInt y
  omega
theorem e_bx_eq {x y : Int32} : x = y ↔ e_bx x = e_bx y := by
  rw [← Int32.toInt_inj]
  have h1 := e_bx_toInt x
  have h2 := e_bx_toInt y
  omega
/-- what an operation of two ints answers -/
def e_binR (i : Nat) (x y r : Int32) : Prop := match i with
  | 0 => r = x + y
  | 1 => r = x - y
  | 2 => r = x * y
  | 3 => ¬ y = 0 ∧ r = x / y
  | 4 => ¬ y = 0 ∧ r = x - x / y * y
  | 5 => r = x &&& y
  | 6 => r = x >>> (y &&& 31)
  | _ => False
def e_unR (i : Nat) (x r : Int32) : Prop := match i with
  | 7 => r = (x.toUInt32 % 65536).toInt32
  | 8 => r = x.toInt8.toInt32
  | 9 => r = -x
  | _ => False
def e_ok0 (X : eX) (G : eG) : Prop := (∀ (k lo hi : Nat), e_get G.1 k = some (lo, hi) → lo ≤ e_bx (X.2 k) ∧ e_bx (X.2 k) ≤ hi) ∧ ∀ (o k c r : Nat), (o, k, c, r) ∈ G.2 → (o ≤ 6 → e_binR o (X.2 k) (nI c) (X.2 r)) ∧ (7 ≤ o → e_unR o (X.2 k) (X.2 r))
theorem c_isI {v : eV} (X : eX) (ρ : Nat → Nat) (h : e_isI v = true) : c_v X ρ v = .int (c_I X v) := by
  obtain ⟨t, n⟩ := v
  unfold e_isI at h
  simp only [Bool.or_eq_true] at h
  rcases h with h | h <;> (have := Nat.eq_of_beq_eq_true h; subst this; rfl)
theorem e_rng_ok {X : eX} {G : eG} (hG : e_ok0 X G) {v : eV} {lo hi : Nat} (h : e_rng G v = some (lo, hi)) : e_isI v = true ∧ lo ≤ e_bx (c_I X v) ∧ e_bx (c_I X v) ≤ hi := by
  obtain ⟨t, n⟩ := v
  unfold e_rng at h
  split at h
  · rename_i m heq
    cases heq
    obtain ⟨rfl, rfl⟩ := Prod.mk.inj (Option.some.inj h)
    exact ⟨rfl, Nat.le_of_eq (e_bx_nI n).symm, Nat.le_of_eq (e_bx_nI n)⟩
  · rename_i m heq
    cases heq
    exact ⟨rfl, hG.1 _ _ _ h⟩
  · cases h
theorem e_lt_ok {X : eX} {G : eG} (hG : e_ok0 X G) {a b : eV} {r : Bool} (h : e_lt G a b = some r) : e_isI a = true ∧ e_isI b = true ∧ (r = true ↔ c_I X a < c_I X b) := by
  unfold e_lt at h
  split at h
  · rename_i la ha lb hb h1 h2
    obtain ⟨i1, l1, u1⟩ := e_rng_ok hG h1
    obtain ⟨i2, l2, u2⟩ := e_rng_ok hG h2
    refine ⟨i1, i2, ?_⟩
    rw [e_bx_lt]
    cases hc : Nat.blt ha lb
    · rw [hc] at h
      cases hd : Nat.ble hb la
      · rw [hd] at h; cases h
      · rw [hd] at h
        cases h
        have := Nat.le_of_ble_eq_true hd
        constructor
        · intro q; cases q
        · intro q; omega
    · rw [hc] at h
      cases h
      have : ha < lb := Nat.le_of_ble_eq_true hc
      constructor
      · intro _; omega
      · intro _; rfl
  · cases h
theorem e_eq_ok {X : eX} {G : eG} (hG : e_ok0 X G) {a b : eV} {r : Bool} (h : e_eq G a b = some r) : e_isI a = true ∧ e_isI b = true ∧ (r = true ↔ c_I X a = c_I X b) := by
  unfold e_eq at h
  split at h
  · rename_i la ha lb hb h1 h2
    obtain ⟨i1, l1, u1⟩ := e_rng_ok hG h1
    obtain ⟨i2, l2, u2⟩ := e_rng_ok hG h2
    refine ⟨i1, i2, ?_⟩
    rw [e_bx_eq]
    cases hc : (Nat.blt ha lb || Nat.blt hb la)
    · rw [hc] at h
      cases hd : (Nat.beq la ha && (Nat.beq lb hb && Nat.beq la lb))
      · rw [hd] at h; cases h
      · rw [hd] at h
        cases h
        simp only [Bool.and_eq_true] at hd
        have q1 := Nat.eq_of_beq_eq_true hd.1
        have q2 := Nat.eq_of_beq_eq_true hd.2.1
        have q3 := Nat.eq_of_beq_eq_true hd.2.2
        constructor
        · intro _; omega
        · intro _; rfl
    · rw [hc] at h
      cases h
      simp only [Bool.or_eq_true] at hc
      have hc : ha < lb ∨ hb < la := hc.imp (fun q => Nat.le_of_ble_eq_true q) (fun q => Nat.le_of_ble_eq_true q)
      constructor
      · intro q; cases q
      · intro q; omega
  · cases h
/-- what a condition says -/
def e_condR (i : Nat) (x y : Int32) : Prop := match i with
  | 0 => x = y
  | 1 => ¬ x = y
  | 2 => x < y
  | 3 => y ≤ x
  | 4 => y < x
  | 5 => x ≤ y
  | _ => False
theorem e_not_ok {o : Option Bool} {r : Bool} (h : e_not o = some r) : ∃ b, o = some b ∧ (r = true ↔ ¬ b = true) := by
  cases o with
  | none => cases h
  | some b => exact ⟨b, rfl, by cases h; cases b <;> simp⟩
theorem i32_nlt {x y : Int32} : ¬ x < y ↔ y ≤ x := by
  rw [e_bx_lt, e_bx_le]; omega
theorem e_cond_ok {X : eX} {G : eG} (hG : e_ok0 X G) {i : Nat} {a b : eV} {r : Bool} (h : e_cond G i a b = some r) : i ≤ 5 ∧ e_isI a = true ∧ e_isI b = true ∧ (r = true ↔ e_condR i (c_I X a) (c_I X b)) := by
  match i, h with
  | 0, h => exact ⟨by omega, e_eq_ok hG h⟩
  | 1, h =>
    obtain ⟨b1, h1, h2⟩ := e_not_ok h
    obtain ⟨i1, i2, h3⟩ := e_eq_ok hG h1
    exact ⟨by omega, i1, i2, h2.trans (not_congr h3)⟩
  | 2, h => exact ⟨by omega, e_lt_ok hG h⟩
  | 3, h =>
    obtain ⟨b1, h1, h2⟩ := e_not_ok h
    obtain ⟨i1, i2, h3⟩ := e_lt_ok hG h1
    exact ⟨by omega, i1, i2, (h2.trans (not_congr h3)).trans i32_nlt⟩
  | 4, h =>
    obtain ⟨i1, i2, h3⟩ := e_lt_ok hG h
    exact ⟨by omega, i2, i1, h3⟩
  | 5, h =>
    obtain ⟨b1, h1, h2⟩ := e_not_ok h
    obtain ⟨i1, i2, h3⟩ := e_lt_ok hG h1
    exact ⟨by omega, i2, i1, (h2.trans (not_congr h3)).trans i32_nlt⟩
  | i + 6, h => cases h
theorem e_fact_ok {l : List (Nat × Nat × Nat × Nat)} {o k c r : Nat} (h : e_fact l o k c = some r) : (o, k, c, r) ∈ l := by
  induction l with
  | nil => cases h
  | cons a t ih =>
    obtain ⟨o', k', c', r'⟩ := a
    unfold e_fact at h
    cases hc : (Nat.beq o o' && (Nat.beq k k' && Nat.beq c c'))
    · rw [hc] at h
      exact List.mem_cons_of_mem _ (ih h)
    · rw [hc] at h
      cases h
      simp only [Bool.and_eq_true] at hc
      have q1 := Nat.eq_of_beq_eq_true hc.1
      have q2 := Nat.eq_of_beq_eq_true hc.2.1
      have q3 := Nat.eq_of_beq_eq_true hc.2.2
      subst q1; subst q2; subst q3
      exact List.mem_cons_self
theorem nI_subm (a b : Nat) : nI ((a + (4294967296 - b % 4294967296)) % 4294967296) = nI a - nI b := by
  apply Int32.toBitVec_inj.mp
  apply BitVec.eq_of_toNat_eq
  rw [nI_nat]
  show _ = (nI a - nI b).toBitVec.toNat
  rw [Int32.toBitVec_sub, BitVec.toNat_sub, nI_nat, nI_nat]
  omega
theorem nI_negm (a : Nat) : nI ((4294967296 - a % 4294967296) % 4294967296) = - nI a := by
  apply Int32.toBitVec_inj.mp
  apply BitVec.eq_of_toNat_eq
  rw [nI_nat, Int32.toBitVec_neg, BitVec.toNat_neg, nI_nat]
  omega
theorem nI_land (a b : Nat) : nI (Nat.land a b) = nI a &&& nI b := by
  apply Int32.toBitVec_inj.mp
  apply BitVec.eq_of_toNat_eq
  rw [nI_nat, Int32.toBitVec_and, BitVec.toNat_and, nI_nat, nI_nat]
  exact Nat.and_mod_two_pow (n := 32)
theorem nI_sm : ∀ b, b < 31 → ((nI b &&& 31).toBitVec.smod 32).toNat = b := by decide +kernel
theorem nI_i8a : ∀ c, c < 256 → (nI c).toInt8.toInt32 = nI (bif Nat.blt c 128 then c else 4294967040 + c) := by decide +kernel
theorem nI_i8 (a : Nat) : (nI a).toInt8 = (nI (a % 256)).toInt8 := by
  apply Int8.toBitVec_inj.mp
  apply BitVec.eq_of_toNat_eq
  show ((nI a).toBitVec.signExtend 8).toNat = ((nI (a % 256)).toBitVec.signExtend 8).toNat
  rw [BitVec.signExtend_eq_setWidth_of_le _ (by decide), BitVec.signExtend_eq_setWidth_of_le _ (by decide), BitVec.toNat_setWidth, BitVec.toNat_setWidth, nI_nat, nI_nat]
  omega
theorem e_bin_ok {X : eX} {G : eG} (hG : e_ok0 X G) {i : Nat} {x y v : eV} (h : e_bin G i x y = some v) : e_isI x = true ∧ e_isI y = true ∧ e_isI v = true ∧ e_binR i (c_I X x) (c_I X y) (c_I X v) := by
  unfold e_bin at h
  split at h
  · rename_i a b
    refine ⟨rfl, rfl, ?_⟩
    match i, h with
    | 0, h => cases h; exact ⟨rfl, by show nI _ = _; rw [nI_mod]; exact (nI_add a b).symm⟩
    | 1, h => cases h; exact ⟨rfl, nI_subm a b⟩
    | 2, h => cases h; exact ⟨rfl, by show nI _ = _; rw [nI_mod]; exact (pk_mul a b).symm⟩
    | 3, h =>
      cases hc : (Nat.blt a 2147483648 && (Nat.blt 0 b && Nat.blt b 2147483648))
      · rw [hc] at h; cases h
      · rw [hc] at h
        cases h
        simp only [Bool.and_eq_true] at hc
        have q1 : a < 2 ^ 31 := Nat.le_of_ble_eq_true hc.1
        have q2 : 0 < b := Nat.le_of_ble_eq_true hc.2.1
        have q3 : b < 2 ^ 31 := Nat.le_of_ble_eq_true hc.2.2
        exact ⟨rfl, nI_ne0 q2 q3, (pk_div q1 q2 q3).symm⟩
    | 4, h =>
      cases hc : (Nat.blt a 2147483648 && (Nat.blt 0 b && Nat.blt b 2147483648))
      · rw [hc] at h; cases h
      · rw [hc] at h
        cases h
        simp only [Bool.and_eq_true] at hc
        have q1 : a < 2 ^ 31 := Nat.le_of_ble_eq_true hc.1
        have q2 : 0 < b := Nat.le_of_ble_eq_true hc.2.1
        have q3 : b < 2 ^ 31 := Nat.le_of_ble_eq_true hc.2.2
        exact ⟨rfl, nI_ne0 q2 q3, (pk_rem q1 q2 q3).symm⟩
    | 5, h => cases h; exact ⟨rfl, nI_land a b⟩
    | 6, h =>
      cases hc : (Nat.blt a 2147483648 && Nat.blt b 31)
      · rw [hc] at h; cases h
      · rw [hc] at h
        cases h
        simp only [Bool.and_eq_true] at hc
        have q1 : a < 2 ^ 31 := Nat.le_of_ble_eq_true hc.1
        have q2 : b < 31 := Nat.le_of_ble_eq_true hc.2
        exact ⟨rfl, (pk_shrN q1 (nI b &&& 31) b (nI_sm b q2)).symm⟩
    | i + 7, h => cases h
  · rename_i k
    match i, h with
    | 0, h => cases h
    | 1, h => cases h
    | 2, h =>
      cases h
      refine ⟨rfl, rfl, rfl, ?_⟩
      show nI 0 = nI 0 * _
      rw [nI_0]
      simp
    | i + 3, h => cases h
  · rename_i k b
    cases hc : Nat.ble i 6
    · rw [hc] at h; cases h
    · rw [hc] at h
      have h : (match e_fact G.2 i k b with | some r => some (4, r) | none => none) = some v := h
      split at h
      · rename_i r hr
        cases h
        exact ⟨rfl, rfl, rfl, (hG.2 i k b r (e_fact_ok hr)).1 (Nat.le_of_ble_eq_true hc)⟩
      · cases h
  · cases h
theorem e_un_ok {X : eX} {G : eG} (hG : e_ok0 X G) {i : Nat} {x v : eV} (h : e_un G i x = some v) : e_isI x = true ∧ e_isI v = true ∧ e_unR i (c_I X x) (c_I X v) := by
  unfold e_un at h
  split at h
  · rename_i a
    refine ⟨rfl, ?_⟩
    match i, h with
    | 0, h => cases h
    | 1, h => cases h
    | 2, h => cases h
    | 3, h => cases h
    | 4, h => cases h
    | 5, h => cases h
    | 6, h => cases h
    | 7, h =>
      cases h
      refine ⟨rfl, ?_⟩
      show nI (a % 65536) = ((nI a).toUInt32 % 65536).toInt32
      rw [pk_char, nI_nat]
      exact congrArg nI (by omega)
    | 8, h =>
      have h : (bif Nat.blt (a % 256) 128 then some ((0 : Nat), a % 256) else some (0, 4294967040 + a % 256)) = some v := h
      have h2 := nI_i8a (a % 256) (Nat.mod_lt _ (by decide))
      have h3 : (nI a).toInt8.toInt32 = nI (bif Nat.blt (a % 256) 128 then a % 256 else 4294967040 + a % 256) := by rw [nI_i8]; exact h2
      cases hc : Nat.blt (a % 256) 128
      · rw [hc] at h h3
        cases h
        exact ⟨rfl, h3.symm⟩
      · rw [hc] at h h3
        cases h
        exact ⟨rfl, h3.symm⟩
    | 9, h => cases h; exact ⟨rfl, nI_negm a⟩
    | i + 10, h => cases h
  · rename_i k
    cases hc : Nat.ble 7 i
    · rw [hc] at h; cases h
    · rw [hc] at h
      have h : (match e_fact G.2 i k 0 with | some r => some (4, r) | none => none) = some v := h
      split at h
      · rename_i r hr
        cases h
        exact ⟨rfl, rfl, (hG.2 i k 0 r (e_fact_ok hr)).2 (Nat.le_of_ble_eq_true hc)⟩
      · cases h
  · cases h
theorem lN_nat (n : Nat) : (lN n).toBitVec.toNat = n % 18446744073709551616 := by
  show (Int64.ofNat n).toBitVec.toNat = _
  simp
theorem lN_mod (n : Nat) : lN (n % 18446744073709551616) = lN n := by
  apply Int64.toBitVec_inj.mp
  apply BitVec.eq_of_toNat_eq
  rw [lN_nat, lN_nat, Nat.mod_mod]
theorem lN_subm (a b : Nat) : lN ((a + (18446744073709551616 - b % 18446744073709551616)) % 18446744073709551616) = lN a - lN b := by
  apply Int64.toBitVec_inj.mp
  apply BitVec.eq_of_toNat_eq
  rw [lN_nat]
  show _ = (lN a - lN b).toBitVec.toNat
  rw [Int64.toBitVec_sub, BitVec.toNat_sub, lN_nat, lN_nat]
  omega
theorem e_i2l_ok (a : Nat) : (nI a).toInt64 = lN (e_i2l a) := by
  apply Int64.toInt_inj.mp
  rw [Int32.toInt_toInt64]
  have h1 := e_bx_toInt (nI a)
  rw [e_bx_nI] at h1
  have h2 : (lN (e_i2l a)).toInt = if 2 * (e_i2l a % 18446744073709551616) < 18446744073709551616 then ((e_i2l a % 18446744073709551616 : Nat) : Int) else ((e_i2l a % 18446744073709551616 : Nat) : Int) - 18446744073709551616 := by
    show (lN (e_i2l a)).toBitVec.toInt = _
    rw [BitVec.toInt_eq_toNat_cond, lN_nat]
    rfl
  rw [h2]
  unfold e_i2l e_b at *
  cases hc : Nat.blt (a % 4294967296) 2147483648
  · have : ¬ a % 4294967296 < 2147483648 := fun q => by rw [show Nat.blt (a % 4294967296) 2147483648 = true from Nat.ble_eq_true_of_le q] at hc; cases hc
    simp only [cond_false]
    split <;> omega
  · have : a % 4294967296 < 2147483648 := Nat.le_of_ble_eq_true hc
    simp only [cond_true]
    split <;> omega
def e_Bx (x : Int64) : Nat := (x.toBitVec.toNat + 9223372036854775808) % 18446744073709551616
theorem e_Bx_lN (n : Nat) : e_Bx (lN n) = e_B n := by
  unfold e_Bx e_B
  rw [lN_nat]
  omega
theorem e_Bx_toInt (x : Int64) : (e_Bx x : Int) = x.toInt + 9223372036854775808 := by
  have h : x.toInt = if 2 * x.toBitVec.toNat < 18446744073709551616 then (x.toBitVec.toNat : Int) else (x.toBitVec.toNat : Int) - 18446744073709551616 := by
    show x.toBitVec.toInt = _
    rw [BitVec.toInt_eq_toNat_cond]
    rfl
  have h2 : x.toBitVec.toNat < 18446744073709551616 := x.toBitVec.isLt
  unfold e_Bx
  rw [h]
  split <;> omega
theorem e_Bx_lt {x y : Int64} : x < y ↔ e_Bx x < e_Bx y := by
  rw [Int64.lt_iff_toInt_lt]
  have h1 := e_Bx_toInt x
  have h2 := e_Bx_toInt y
  omega
theorem e_Bx_eq {x y : Int64} : x = y ↔ e_Bx x = e_Bx y := by
  rw [← Int64.toInt_inj]
  have h1 := e_Bx_toInt x
  have h2 := e_Bx_toInt y
  omega
/-- what an operation of two longs answers -/
def e_lbinR (i : Nat) (x y : Int64) (v : Value) : Prop := match i with
  | 0 => v = .long (x + y)
  | 1 => v = .long (x - y)
  | 2 => v = .long (x * y)
  | 3 => ¬ y = 0 ∧ v = .long (x / y)
  | 4 => v = .int (lg_cmp x y)
  | _ => False
theorem e_lbin_ok (X : eX) (ρ : Nat → Nat) {i a b : Nat} {v : eV} (h : e_lbin i a b = some v) : (v.1 = 5 ∨ v.1 = 0) ∧ e_lbinR i (lN a) (lN b) (c_v X ρ v) := by
  match i, h with
  | 0, h => cases h; exact ⟨Or.inl rfl, by show Value.long (lN _) = _; rw [lN_mod]; exact congrArg Value.long (lN_add a b).symm⟩
  | 1, h => cases h; exact ⟨Or.inl rfl, congrArg Value.long (lN_subm a b)⟩
  | 2, h => cases h; exact ⟨Or.inl rfl, by show Value.long (lN _) = _; rw [lN_mod]; exact congrArg Value.long (lN_mul a b).symm⟩
  | 3, h =>
    have h : (bif Nat.blt a 9223372036854775808 && (Nat.blt 0 b && Nat.blt b 9223372036854775808) then some ((5 : Nat), a / b) else none) = some v := h
    cases hc : (Nat.blt a 9223372036854775808 && (Nat.blt 0 b && Nat.blt b 9223372036854775808))
    · rw [hc] at h; cases h
    · rw [hc] at h
      cases h
      simp only [Bool.and_eq_true] at hc
      have q1 : a < 2 ^ 63 := Nat.le_of_ble_eq_true hc.1
      have q2 : 0 < b := Nat.le_of_ble_eq_true hc.2.1
      have q3 : b < 2 ^ 63 := Nat.le_of_ble_eq_true hc.2.2
      refine ⟨Or.inl rfl, ?_, congrArg Value.long (pk_lDiv q1 q2 q3).symm⟩
      intro q
      have h3 := (pk_lEQ q3 (show 0 < 2 ^ 63 by decide)).mp (show lN b = lN 0 from q)
      omega
  | 4, h =>
    cases h
    refine ⟨Or.inr rfl, ?_⟩
    show Value.int (nI (bif Nat.blt (e_B a) (e_B b) then 4294967295 else bif Nat.blt (e_B b) (e_B a) then 1 else 0)) = Value.int (lg_cmp (lN a) (lN b))
    refine congrArg Value.int ?_
    rw [← e_Bx_lN a, ← e_Bx_lN b]
    unfold lg_cmp
    cases h1 : Nat.blt (e_Bx (lN a)) (e_Bx (lN b))
    · have n1 : ¬ lN a < lN b := fun q => by rw [show Nat.blt (e_Bx (lN a)) (e_Bx (lN b)) = true from Nat.ble_eq_true_of_le (e_Bx_lt.mp q)] at h1; cases h1
      cases h2 : Nat.blt (e_Bx (lN b)) (e_Bx (lN a))
      · have n2 : ¬ lN b < lN a := fun q => by rw [show Nat.blt (e_Bx (lN b)) (e_Bx (lN a)) = true from Nat.ble_eq_true_of_le (e_Bx_lt.mp q)] at h2; cases h2
        have n3 : lN a = lN b := e_Bx_eq.mpr (by have := mt e_Bx_lt.mpr n1; have := mt e_Bx_lt.mpr n2; omega)
        rw [if_neg n2, if_pos n3]
        exact nI_0
      · have n2 : lN b < lN a := e_Bx_lt.mpr (Nat.le_of_ble_eq_true h2)
        rw [if_pos n2]
        rfl
    · have n1 : lN a < lN b := e_Bx_lt.mpr (Nat.le_of_ble_eq_true h1)
      have n2 : ¬ lN b < lN a := fun q => by have := e_Bx_lt.mp q; have := e_Bx_lt.mp n1; omega
      have n3 : ¬ lN a = lN b := fun q => by have := e_Bx_eq.mp q; have := e_Bx_lt.mp n1; omega
      rw [if_neg n2, if_neg n3]
      rfl
  | i + 5, h => cases h
end
section
/-! locals, stacks and worlds of the abstract machine -/
theorem c_cat (X : eX) (ρ : Nat → Nat) (v : eV) : (c_v X ρ v).category = bif e_wide v then 2 else 1 := by
  obtain ⟨t, n⟩ := v
  match t with
  | 0 => rfl
  | 1 => rfl
  | 2 => rfl
  | 3 => rfl
  | 4 => rfl
  | 5 => rfl
  | 6 => rfl
  | 7 => rfl
  | t + 8 => rfl
theorem c_cat2 (X : eX) (ρ : Nat → Nat) (v : eV) : ((c_v X ρ v).category == 2) = e_wide v := by
  rw [c_cat]
  cases e_wide v <;> rfl
def c_ls (X : eX) (ρ : Nat → Nat) (ls : eL) : List (Nat × Value) := ls.map fun q => (q.1, c_v X ρ q.2)
theorem beq_nat (a b : Nat) : (a == b) = Nat.beq a b := Bool.eq_iff_iff.mpr ⟨fun h => by rw [eq_of_beq h]; exact Nat.beq_refl b, fun h => by rw [Nat.eq_of_beq_eq_true h]; exact beq_self_eq_true b⟩
theorem c_drop1 (X : eX) (ρ : Nat → Nat) (i : Nat) : ∀ ls : eL, (c_ls X ρ ls).filter (fun q => !(q.1 == i) && !(q.1 + 1 == i && q.2.category == 2)) = c_ls X ρ (e_drop1 i ls)
  | [] => rfl
  | (j, v) :: t => by
    have ih := c_drop1 X ρ i t
    show List.filter _ ((j, c_v X ρ v) :: c_ls X ρ t) = c_ls X ρ (bif Nat.beq j i || (Nat.beq (j + 1) i && e_wide v) then e_drop1 i t else (j, v) :: e_drop1 i t)
    rw [List.filter_cons]
    dsimp only
    rw [c_cat2, ih, beq_nat, beq_nat]
    cases Nat.beq j i <;> cases Nat.beq (j + 1) i <;> cases e_wide v <;> rfl
theorem c_drop2 (X : eX) (ρ : Nat → Nat) (i : Nat) : ∀ ls : eL, (c_ls X ρ ls).filter (fun q => !(q.1 == i) && (!(q.1 == i + 1) && !(q.1 + 1 == i && q.2.category == 2))) = c_ls X ρ (e_drop2 i ls)
  | [] => rfl
  | (j, v) :: t => by
    have ih := c_drop2 X ρ i t
    show List.filter _ ((j, c_v X ρ v) :: c_ls X ρ t) = c_ls X ρ (bif Nat.beq j i || (Nat.beq j (i + 1) || (Nat.beq (j + 1) i && e_wide v)) then e_drop2 i t else (j, v) :: e_drop2 i t)
    rw [List.filter_cons]
    dsimp only
    rw [c_cat2, ih, beq_nat, beq_nat, beq_nat]
    cases Nat.beq j i <;> cases Nat.beq j (i + 1) <;> cases Nat.beq (j + 1) i <;> cases e_wide v <;> rfl
theorem c_look (X : eX) (ρ : Nat → Nat) {i : Nat} {v : eV} : ∀ {ls : eL}, e_look ls i = some v → (i, v) ∈ ls
  | [], h => by cases h
  | (j, w) :: t, h => by
    have h : (bif Nat.beq j i then some w else e_look t i) = some v := h
    cases hc : Nat.beq j i
    · rw [hc] at h
      exact List.mem_cons_of_mem _ (c_look X ρ h)
    · rw [hc] at h
      cases h
      have := Nat.eq_of_beq_eq_true hc
      subst this
      exact List.mem_cons_self
theorem c_lookv {X : eX} {ρ : Nat → Nat} {i n : Nat} {v : eV} {ls : eL} {la : Array Slot} (h : e_look ls i = some v) (hl : lv_has la n (c_ls X ρ ls)) : la[i]? = some (.val (c_v X ρ v)) :=
  hl.2.2 (i, c_v X ρ v) (List.mem_map_of_mem (f := fun q : Nat × eV => (q.1, c_v X ρ q.2)) (c_look X ρ h))
theorem c_cats (X : eX) (ρ : Nat → Nat) : ∀ st : List eV, ((st.map (c_v X ρ)).map fun v => v.category).sum = e_cat st
  | [] => rfl
  | v :: t => by
    show (c_v X ρ v).category + ((t.map (c_v X ρ)).map fun v => v.category).sum = (bif e_wide v then 2 else 1) + e_cat t
    rw [c_cats X ρ t, c_cat]
theorem c_args (X : eX) (ρ : Nat → Nat) : ∀ (as : List eV) (i : Nat), lv_args i (as.map (c_v X ρ)) = c_ls X ρ (e_args i as)
  | [], _ => rfl
  | v :: t, i => by
    show (i, c_v X ρ v) :: lv_args (if (c_v X ρ v).category = 2 then i + 2 else i + 1) (t.map (c_v X ρ)) = (i, c_v X ρ v) :: c_ls X ρ (e_args (bif e_wide v then i + 2 else i + 1) t)
    rw [c_cat]
    cases e_wide v
    · rw [← c_args X ρ t]; rfl
    · rw [← c_args X ρ t]; rfl
theorem lg_len : ∀ vs : List Value, (lg_sl vs).length = (vs.map fun v => v.category).sum
  | [] => rfl
  | v :: t => by
    have ih := lg_len t
    unfold lg_sl at ih ⊢
    rw [List.flatMap_cons, List.length_append, ih, List.map_cons, List.sum_cons]
    congr 1
    cases v <;> rfl
def c_L (v : eV) : Int64 := match v with
  | (5, n) => lN n
  | _ => 0
def c_D (v : eV) : UInt64 := match v with
  | (6, n) => UInt64.ofNat n
  | _ => 0
def c_R (X : eX) (ρ : Nat → Nat) (v : eV) : Option Nat := match v with
  | (2, k) => some (ρ k)
  | (3, k) => some (X.1 k)
  | _ => none
/-- an array's components -/
def c_a (X : eX) (ρ : Nat → Nat) (t : Nat) (l : List eV) : vp_A := (l.length, match t with
  | 3 => .inr (.inl fun j => c_L (l.getD j (5, 0)))
  | 4 => .inr (.inr (.inr (.inl fun j => c_D (l.getD j (6, 0)))))
  | 6 => .inr (.inr (.inr (.inr fun j => c_R X ρ (l.getD j (1, 0)))))
  | 7 => .inr (.inr (.inr (.inr fun j => c_R X ρ (l.getD j (1, 0)))))
  | _ => .inl fun j => c_I X (l.getD j (0, 0)))
def c_c (X : eX) (cA : Nat → ClassId) (ρ : Nat → Nat) (c : eC) : va_E := match c with
  | (0, ci, fs) => .inr (ci, fs.map (c_v X ρ))
  | (_, t, l) => .inl (cA t, c_a X ρ t l)
def c_w (X : eX) (cA : Nat → ClassId) (ρ : Nat → Nat) : Nat → eH → va_W
  | _, [] => []
  | i, c :: t => (ρ i, c_c X cA ρ c) :: c_w X cA ρ (i + 1) t
theorem cw_get (X : eX) (cA : Nat → ClassId) (ρ : Nat → Nat) : ∀ (h : eH) (i k : Nat), (c_w X cA ρ i h)[k]? = (e_get h k).map fun c => (ρ (i + k), c_c X cA ρ c)
  | [], _, _ => rfl
  | c :: t, i, 0 => rfl
  | c :: t, i, k + 1 => by
    show (c_w X cA ρ (i + 1) t)[k]? = (e_get t k).map fun c => (ρ (i + (k + 1)), c_c X cA ρ c)
    rw [cw_get X cA ρ t (i + 1) k, show i + 1 + k = i + (k + 1) by omega]
theorem cw_set (X : eX) (cA : Nat → ClassId) (ρ : Nat → Nat) (c : eC) : ∀ (h : eH) (i k : Nat), (c_w X cA ρ i h).set k (ρ (i + k), c_c X cA ρ c) = c_w X cA ρ i (h.set k c)
  | [], _, _ => rfl
  | _ :: t, i, 0 => rfl
  | d :: t, i, k + 1 => by
    show (ρ i, c_c X cA ρ d) :: (c_w X cA ρ (i + 1) t).set k (ρ (i + (k + 1)), c_c X cA ρ c) = (ρ i, c_c X cA ρ d) :: c_w X cA ρ (i + 1) (t.set k c)
    rw [← cw_set X cA ρ c t (i + 1) k, show i + 1 + k = i + (k + 1) by omega]
theorem cw_app (X : eX) (cA : Nat → ClassId) (ρ : Nat → Nat) (g : eH) : ∀ (h : eH) (i : Nat), c_w X cA ρ i (h ++ g) = c_w X cA ρ i h ++ c_w X cA ρ (i + h.length) g
  | [], i => rfl
  | c :: t, i => by
    show (ρ i, c_c X cA ρ c) :: c_w X cA ρ (i + 1) (t ++ g) = (ρ i, c_c X cA ρ c) :: (c_w X cA ρ (i + 1) t ++ c_w X cA ρ (i + (t.length + 1)) g)
    rw [cw_app X cA ρ g t (i + 1), show i + 1 + t.length = i + (t.length + 1) by omega]
/-- a value speaks of the first n places alone -/
def e_okV (n : Nat) (v : eV) : Prop := v.1 = 2 → v.2 < n
def e_okS (n : Nat) (st : List eV) : Prop := ∀ v ∈ st, e_okV n v
def e_okLs (n : Nat) (ls : eL) : Prop := ∀ q ∈ ls, e_okV n q.2
def e_okH (n : Nat) (h : eH) : Prop := ∀ c ∈ h, e_okS n c.2.2
theorem c_v_congr {X : eX} {ρ ρ' : Nat → Nat} {n : Nat} {v : eV} (h : e_okV n v) (hρ : ∀ k, k < n → ρ' k = ρ k) : c_v X ρ' v = c_v X ρ v := by
  obtain ⟨t, k⟩ := v
  match t, h with
  | 0, _ => rfl
  | 1, _ => rfl
  | 2, h => exact congrArg Value.ref (hρ k (h rfl))
  | 3, _ => rfl
  | 4, _ => rfl
  | 5, _ => rfl
  | 6, _ => rfl
  | 7, _ => rfl
  | t + 8, _ => rfl
theorem c_R_congr {X : eX} {ρ ρ' : Nat → Nat} {n : Nat} {v : eV} (h : e_okV n v) (hρ : ∀ k, k < n → ρ' k = ρ k) : c_R X ρ' v = c_R X ρ v := by
  obtain ⟨t, k⟩ := v
  match t, h with
  | 0, _ => rfl
  | 1, _ => rfl
  | 2, h => exact congrArg some (hρ k (h rfl))
  | 3, _ => rfl
  | t + 4, _ => rfl
theorem c_st_congr {X : eX} {ρ ρ' : Nat → Nat} {n : Nat} {st : List eV} (h : e_okS n st) (hρ : ∀ k, k < n → ρ' k = ρ k) : st.map (c_v X ρ') = st.map (c_v X ρ) :=
  List.map_congr_left fun v hv => c_v_congr (h v hv) hρ
theorem c_ls_congr {X : eX} {ρ ρ' : Nat → Nat} {n : Nat} {ls : eL} (h : e_okLs n ls) (hρ : ∀ k, k < n → ρ' k = ρ k) : c_ls X ρ' ls = c_ls X ρ ls :=
  List.map_congr_left fun q hq => by rw [c_v_congr (h q hq) hρ]
theorem e_okgetD {n j : Nat} {l : List eV} {d : eV} (h : e_okS n l) (hd : e_okV n d) : e_okV n (l.getD j d) := by
  rw [List.getD_eq_getElem?_getD]
  cases hj : l[j]? with
  | none => exact hd
  | some v => exact h v (List.mem_of_getElem? hj)
theorem c_c_congr {X : eX} {cA : Nat → ClassId} {ρ ρ' : Nat → Nat} {n : Nat} {c : eC} (h : e_okS n c.2.2) (hρ : ∀ k, k < n → ρ' k = ρ k) : c_c X cA ρ' c = c_c X cA ρ c := by
  obtain ⟨k, t, l⟩ := c
  have ha : c_a X ρ' t l = c_a X ρ t l := by
    unfold c_a
    refine congrArg (Prod.mk _) ?_
    have hf : (fun j => c_R X ρ' (l.getD j (1, 0))) = fun j => c_R X ρ (l.getD j (1, 0)) := funext fun j => c_R_congr (e_okgetD h (fun q => by cases q)) hρ
    split <;> first | rfl | rw [hf]
  match k with
  | 0 => exact congrArg Sum.inr (congrArg (Prod.mk t) (c_st_congr h hρ))
  | k + 1 => exact congrArg Sum.inl (congrArg (Prod.mk (cA t)) ha)
theorem cw_congr {X : eX} {cA : Nat → ClassId} {ρ ρ' : Nat → Nat} {n : Nat} (hρ : ∀ k, k < n → ρ' k = ρ k) : ∀ (h : eH) (i : Nat), e_okH n h → i + h.length ≤ n → c_w X cA ρ' i h = c_w X cA ρ i h
  | [], _, _, _ => rfl
  | c :: t, i, hh, hi => by
    have hi2 : i + (t.length + 1) ≤ n := hi
    show (ρ' i, c_c X cA ρ' c) :: c_w X cA ρ' (i + 1) t = (ρ i, c_c X cA ρ c) :: c_w X cA ρ (i + 1) t
    rw [hρ i (by omega), c_c_congr (hh c List.mem_cons_self) hρ, cw_congr hρ t (i + 1) (fun d hd => hh d (List.mem_cons_of_mem _ hd)) (by omega)]
/-- a new cell's address -/
def e_ext (ρ : Nat → Nat) (n q : Nat) : Nat → Nat := fun k => if k = n then q else ρ k
theorem e_ext_lt {ρ : Nat → Nat} {n q k : Nat} (h : k < n) : e_ext ρ n q k = ρ k := if_neg (by omega)
theorem e_ext_at {ρ : Nat → Nat} {n q : Nat} : e_ext ρ n q n = q := if_pos rfl
theorem cw_new {X : eX} {cA : Nat → ClassId} {ρ : Nat → Nat} {h : eH} {c : eC} {q : Nat} (hh : e_okH h.length h) : c_w X cA (e_ext ρ h.length q) 0 (h ++ [c]) = c_w X cA ρ 0 h ++ [(q, c_c X cA (e_ext ρ h.length q) c)] := by
  rw [cw_app, cw_congr (n := h.length) (fun k hk => e_ext_lt hk) h 0 hh (by omega)]
  show _ ++ [(e_ext ρ h.length q (0 + h.length), _)] = _
  rw [Nat.zero_add, e_ext_at]
theorem e_okV.mono {n n' : Nat} {v : eV} (h : e_okV n v) (hn : n ≤ n') : e_okV n' v := fun q => Nat.lt_of_lt_of_le (h q) hn
theorem e_okS.mono {n n' : Nat} {st : List eV} (h : e_okS n st) (hn : n ≤ n') : e_okS n' st := fun v hv => (h v hv).mono hn
theorem e_okLs.mono {n n' : Nat} {ls : eL} (h : e_okLs n ls) (hn : n ≤ n') : e_okLs n' ls := fun q hq => (h q hq).mono hn
theorem e_okH.mono {n n' : Nat} {h : eH} (hh : e_okH n h) (hn : n ≤ n') : e_okH n' h := fun c hc => (hh c hc).mono hn
end
section
/-! what an instruction does, said of every frame of its method: the simple ones -/
/-- the words that a change of the state leaves: every method's list is these, behind its own code -/
def wG : List Cond := lw_tbl.filter goodWord
/-- a method: its name, its bytes, its locals, what it answers -/
abbrev eD : Type := MethodName × ByteArray × Nat × Option FieldType
def eCx (p : Program) (s : State) (m : MethodId) (args : Array Value) (meth : Method) (c : Code) (D : eD) : Prop :=
  p.tables.exec = Jvm.exec ∧ c.code = D.2.1 ∧ c.maxLocals = D.2.2.1 ∧ meth.sig.returnType = D.2.2.2 ∧ (∀ w ∈ wG, w.before args s = true) ∧ s.vm.findClass D.1.cls = some m.cls ∧ meth.locks = false ∧ meth.name = D.1.name
def eStp (D : eD) (f g : MethodId → JFrame) : Prop :=
  ∀ (p : Program) (l : Launch) (e : Env) (R : Room) (s : State) (m : MethodId) (args : Array Value) (below : List Frame) (meth : Method) (c : Code) (H : Heap) (locs : List Loc) (cells slots : Nat) (Q : State → Prop), eCx p s m args meth c D → W p l e R s m args below meth c H locs cells slots Q (g m) → W p l e R s m args below meth c H locs cells slots Q (f m)
/-- .. with new locals -/
def eStpL (D : eD) (f : MethodId → JFrame) (nx : Nat) (st : List Value) (lv : List (Nat × Value)) : Prop :=
  ∀ (p : Program) (l : Launch) (e : Env) (R : Room) (s : State) (m : MethodId) (args : Array Value) (below : List Frame) (meth : Method) (c : Code) (H : Heap) (locs : List Loc) (cells slots : Nat) (Q : State → Prop), eCx p s m args meth c D → (∀ ls : Array Slot, lv_has ls D.2.2.1 lv → W p l e R s m args below meth c H locs cells slots Q (F0 m nx ls st)) → W p l e R s m args below meth c H locs cells slots Q (f m)
/-- .. one way or the other -/
def eStpC (D : eD) (P : Prop) (f g h : MethodId → JFrame) : Prop :=
  ∀ (p : Program) (l : Launch) (e : Env) (R : Room) (s : State) (m : MethodId) (args : Array Value) (below : List Frame) (meth : Method) (c : Code) (H : Heap) (locs : List Loc) (cells slots : Nat) (Q : State → Prop), eCx p s m args meth c D → (P → W p l e R s m args below meth c H locs cells slots Q (g m)) → (¬ P → W p l e R s m args below meth c H locs cells slots Q (h m)) → W p l e R s m args below meth c H locs cells slots Q (f m)
def kV (i : Nat) (V : Value) : Prop := match i with
  | 0 => ∃ x, V = .int x
  | 1 => ∃ x, V = .ref x
  | 2 => ∃ x, V = .long x
  | 3 => ∃ x, V = .double x
  | _ => False
def okPush (D : eD) (pc nx : Nat) (V : Value) : Prop := ∀ (ls : Array Slot) (st : List Value), eStp D (fun m => F0 m pc ls st) (fun m => F0 m nx ls (V :: st))
def okLoad (D : eD) (pc nx i a : Nat) : Prop := ∀ (ls : Array Slot) (st : List Value) (V : Value), kV i V → ls[a]? = some (.val V) → eStp D (fun m => F0 m pc ls st) (fun m => F0 m nx ls (V :: st))
def okStore1 (D : eD) (pc nx i a : Nat) : Prop := ∀ (ls : Array Slot) (lv : List (Nat × Value)) (st : List Value) (V : Value), kV i V → lv_has ls D.2.2.1 lv → eStpL D (fun m => F0 m pc ls (V :: st)) nx st ((a, V) :: lv.filter (fun q => !(q.1 == a) && !(q.1 + 1 == a && q.2.category == 2)))
def okStore2 (D : eD) (pc nx i a : Nat) : Prop := ∀ (ls : Array Slot) (lv : List (Nat × Value)) (st : List Value) (V : Value), kV i V → lv_has ls D.2.2.1 lv → eStpL D (fun m => F0 m pc ls (V :: st)) nx st ((a, V) :: lv.filter (fun q => !(q.1 == a) && (!(q.1 == a + 1) && !(q.1 + 1 == a && q.2.category == 2))))
def okIinc (D : eD) (pc nx a b : Nat) : Prop := ∀ (ls : Array Slot) (lv : List (Nat × Value)) (st : List Value) (x : Int32), lv_has ls D.2.2.1 lv → (a, Value.int x) ∈ lv → eStpL D (fun m => F0 m pc ls st) nx st ((a, .int (x + nI b)) :: lv.filter (fun q => !(q.1 == a) && !(q.1 + 1 == a && q.2.category == 2)))
def okDup (D : eD) (pc nx : Nat) : Prop := ∀ (ls : Array Slot) (st : List Value) (V : Value), V.category = 1 → eStp D (fun m => F0 m pc ls (V :: st)) (fun m => F0 m nx ls (V :: V :: st))
def okPop (D : eD) (pc nx : Nat) : Prop := ∀ (ls : Array Slot) (st : List Value) (V : Value), V.category = 1 → eStp D (fun m => F0 m pc ls (V :: st)) (fun m => F0 m nx ls st)
def okDupX (D : eD) (pc nx : Nat) : Prop := ∀ (ls : Array Slot) (st : List Value) (V U : Value), V.category = 1 → U.category = 1 → eStp D (fun m => F0 m pc ls (V :: U :: st)) (fun m => F0 m nx ls (V :: U :: V :: st))
def okGoto (D : eD) (pc nx : Nat) : Prop := ∀ (ls : Array Slot) (st : List Value), eStp D (fun m => F0 m pc ls st) (fun m => F0 m nx ls st)
def okBin (D : eD) (pc nx i : Nat) : Prop := ∀ (ls : Array Slot) (st : List Value) (x y r : Int32), e_binR i x y r → eStp D (fun m => F0 m pc ls (.int y :: .int x :: st)) (fun m => F0 m nx ls (.int r :: st))
def okUn (D : eD) (pc nx i : Nat) : Prop := ∀ (ls : Array Slot) (st : List Value) (x r : Int32), e_unR i x r → eStp D (fun m => F0 m pc ls (.int x :: st)) (fun m => F0 m nx ls (.int r :: st))
def okIf (D : eD) (pc nx tgt i : Nat) : Prop := ∀ (ls : Array Slot) (st : List Value) (x : Int32), eStpC D (e_condR i x 0) (fun m => F0 m pc ls (.int x :: st)) (fun m => F0 m tgt ls st) (fun m => F0 m nx ls st)
def okIcmp (D : eD) (pc nx tgt i : Nat) : Prop := ∀ (ls : Array Slot) (st : List Value) (x y : Int32), eStpC D (e_condR i x y) (fun m => F0 m pc ls (.int y :: .int x :: st)) (fun m => F0 m tgt ls st) (fun m => F0 m nx ls st)
def okLbin (D : eD) (pc nx i : Nat) : Prop := ∀ (ls : Array Slot) (st : List Value) (x y : Int64) (V : Value), e_lbinR i x y V → eStp D (fun m => F0 m pc ls (.long y :: .long x :: st)) (fun m => F0 m nx ls (V :: st))
def okRw (D : eD) (pc nx : Nat) (a b : List Value) : Prop := ∀ (ls : Array Slot) (st : List Value), eStp D (fun m => F0 m pc ls (a ++ st)) (fun m => F0 m nx ls (b ++ st))
def okI2l (D : eD) (pc nx : Nat) : Prop := ∀ x : Int32, okRw D pc nx [.int x] [.long x.toInt64]
section OKS
variable {D : eD} {pc nx a b i : Nat}
theorem okc_iconst {n : Int} (d : decode D.2.1 pc = .ok (.iconst n, 1)) (hv : Int32.ofInt n = nI a) : okPush D pc (pc + 1) (.int (nI a)) := fun _ _ _ _ _ _ _ _ _ _ _ _ _ _ _ _ _ ⟨hx, hb, _⟩ k => lv_iconst hx hb d hv k
theorem okc_bipush {n : Int} (d : decode D.2.1 pc = .ok (.bipush n, 2)) (hv : (Int8.ofInt n).toInt32 = nI a) : okPush D pc (pc + 2) (.int (nI a)) := fun _ _ _ _ _ _ _ _ _ _ _ _ _ _ _ _ _ ⟨hx, hb, _⟩ k => lv_bipush hx hb d hv k
theorem okc_sipush {n : Int} (d : decode D.2.1 pc = .ok (.sipush n, 3)) (hv : (Int16.ofInt n).toInt32 = nI a) : okPush D pc (pc + 3) (.int (nI a)) := fun _ _ _ _ _ _ _ _ _ _ _ _ _ _ _ _ _ ⟨hx, hb, _⟩ k => lv_sipush hx hb d hv k
theorem okc_ldc {x : Nat} (d : decode D.2.1 pc = .ok (.ldc x, 2)) (hw : Cond.constant D.1.cls x (nI a) ∈ wG) : okPush D pc (pc + 2) (.int (nI a)) := fun _ _ _ _ _ _ _ _ _ _ _ _ _ _ _ _ _ ⟨hx, hb, _, _, ht, ho, _⟩ k => lv_ldc hx hb ho (ht _ hw) d k
theorem okc_ldcw {x : Nat} (d : decode D.2.1 pc = .ok (.ldc_w x, 3)) (hw : Cond.constant D.1.cls x (nI a) ∈ wG) : okPush D pc (pc + 3) (.int (nI a)) := fun _ _ _ _ _ _ _ _ _ _ _ _ _ _ _ _ _ ⟨hx, hb, _, _, ht, ho, _⟩ k => lv_ldcw hx hb ho (ht _ hw) d k
theorem okc_lconst {n : Fin 2} (d : decode D.2.1 pc = .ok (.lconst n, 1)) (hv : Int64.ofNat (n : Nat) = lN a) : okPush D pc (pc + 1) (.long (lN a)) := fun _ _ _ _ _ _ _ _ _ _ _ _ _ _ _ _ _ ⟨hx, hb, _⟩ k => lv_lconst hx hb d hv k
theorem okc_ldc2 {x : Nat} (d : decode D.2.1 pc = .ok (.ldc2_w x, 3)) (hw : Cond.constantLong D.1.cls x (lN a) ∈ wG) : okPush D pc (pc + 3) (.long (lN a)) := fun _ _ _ _ _ _ _ _ _ _ _ _ _ _ _ _ _ ⟨hx, hb, _, _, ht, ho, _⟩ k => lv_ldc2 hx hb ho (ht _ hw) d k
theorem okc_ldc2d {x : Nat} (d : decode D.2.1 pc = .ok (.ldc2_w x, 3)) (hw : Cond.constantDouble D.1.cls x (UInt64.ofNat a) ∈ wG) : okPush D pc (pc + 3) (.double (UInt64.ofNat a)) := fun _ _ _ _ _ _ _ _ _ _ _ _ _ _ _ _ _ ⟨hx, hb, _, _, ht, ho, _⟩ k => lv_ldc2d hx hb ho (ht _ hw) d k
theorem okc_ldcf {x : Nat} (d : decode D.2.1 pc = .ok (.ldc x, 2)) (hw : Cond.constantFloat D.1.cls x (UInt32.ofNat a) ∈ wG) : okPush D pc (pc + 2) (.float (UInt32.ofNat a)) := fun _ _ _ _ _ _ _ _ _ _ _ _ _ _ _ _ _ ⟨hx, hb, _, _, ht, ho, _⟩ k => lv_ldcf hx hb ho (ht _ hw) d k
theorem okc_dconst0 (d : decode D.2.1 pc = .ok (.dconst 0, 1)) : okPush D pc (pc + 1) (.double (UInt64.ofNat 0)) := fun _ _ _ _ _ _ _ _ _ _ _ _ _ _ _ _ _ ⟨hx, hb, _⟩ k => lv_dconst0 hx hb d k
theorem okc_null (d : decode D.2.1 pc = .ok (.aconst_null, 1)) : okPush D pc (pc + 1) .null := fun _ _ _ _ _ _ _ _ _ _ _ _ _ _ _ _ _ ⟨hx, hb, _⟩ k => lv_null hx hb d k
theorem okl_iload_n {k : Fin 4} (d : decode D.2.1 pc = .ok (.iload_n k, 1)) (hi : (k : Nat) = a) : okLoad D pc (pc + 1) 0 a := fun _ _ _ ⟨_, hv⟩ hl _ _ _ _ _ _ _ _ _ _ _ _ _ _ _ ⟨hx, hb, _⟩ kk => by subst hv; exact lv_iload_n hx hb d hi hl kk
theorem okl_iload (d : decode D.2.1 pc = .ok (.iload a, 2)) : okLoad D pc (pc + 2) 0 a := fun _ _ _ ⟨_, hv⟩ hl _ _ _ _ _ _ _ _ _ _ _ _ _ _ _ ⟨hx, hb, _⟩ kk => by subst hv; exact lv_iload hx hb d hl kk
theorem okl_aload_n {k : Fin 4} (d : decode D.2.1 pc = .ok (.aload_n k, 1)) (hi : (k : Nat) = a) : okLoad D pc (pc + 1) 1 a := fun _ _ _ ⟨_, hv⟩ hl _ _ _ _ _ _ _ _ _ _ _ _ _ _ _ ⟨hx, hb, _⟩ kk => by subst hv; exact lv_aload_n hx hb d hi hl kk
theorem okl_aload (d : decode D.2.1 pc = .ok (.aload a, 2)) : okLoad D pc (pc + 2) 1 a := fun _ _ _ ⟨_, hv⟩ hl _ _ _ _ _ _ _ _ _ _ _ _ _ _ _ ⟨hx, hb, _⟩ kk => by subst hv; exact lv_aload hx hb d hl kk
theorem okl_lload_n {k : Fin 4} (d : decode D.2.1 pc = .ok (.lload_n k, 1)) (hi : (k : Nat) = a) : okLoad D pc (pc + 1) 2 a := fun _ _ _ ⟨_, hv⟩ hl _ _ _ _ _ _ _ _ _ _ _ _ _ _ _ ⟨hx, hb, _⟩ kk => by subst hv; exact lv_lload_n hx hb d hi hl kk
theorem okl_lload (d : decode D.2.1 pc = .ok (.lload a, 2)) : okLoad D pc (pc + 2) 2 a := fun _ _ _ ⟨_, hv⟩ hl _ _ _ _ _ _ _ _ _ _ _ _ _ _ _ ⟨hx, hb, _⟩ kk => by subst hv; exact lv_lload hx hb d hl kk
theorem okl_dload_n {k : Fin 4} (d : decode D.2.1 pc = .ok (.dload_n k, 1)) (hi : (k : Nat) = a) : okLoad D pc (pc + 1) 3 a := fun _ _ _ ⟨_, hv⟩ hl _ _ _ _ _ _ _ _ _ _ _ _ _ _ _ ⟨hx, hb, _⟩ kk => by subst hv; exact lv_dload_n hx hb d hi hl kk
theorem okl_dload (d : decode D.2.1 pc = .ok (.dload a, 2)) : okLoad D pc (pc + 2) 3 a := fun _ _ _ ⟨_, hv⟩ hl _ _ _ _ _ _ _ _ _ _ _ _ _ _ _ ⟨hx, hb, _⟩ kk => by subst hv; exact lv_dload hx hb d hl kk
theorem oks_istore_n {k : Fin 4} (d : decode D.2.1 pc = .ok (.istore_n k, 1)) (hi : (k : Nat) = a) (hn : a < D.2.2.1) : okStore1 D pc (pc + 1) 0 a := fun _ _ _ _ ⟨_, hv⟩ hl _ _ _ _ _ _ _ _ _ _ _ _ _ _ _ ⟨hx, hb, _⟩ kk => by subst hv; exact lv_istore_n hx hb d hi hl hn rfl kk
theorem oks_istore (d : decode D.2.1 pc = .ok (.istore a, 2)) (hn : a < D.2.2.1) : okStore1 D pc (pc + 2) 0 a := fun _ _ _ _ ⟨_, hv⟩ hl _ _ _ _ _ _ _ _ _ _ _ _ _ _ _ ⟨hx, hb, _⟩ kk => by subst hv; exact lv_istore hx hb d hl hn rfl kk
theorem oks_astore_n {k : Fin 4} (d : decode D.2.1 pc = .ok (.astore_n k, 1)) (hi : (k : Nat) = a) (hn : a < D.2.2.1) : okStore1 D pc (pc + 1) 1 a := fun _ _ _ _ ⟨_, hv⟩ hl _ _ _ _ _ _ _ _ _ _ _ _ _ _ _ ⟨hx, hb, _⟩ kk => by subst hv; exact lv_astore_n hx hb d hi hl hn rfl kk
theorem oks_astore (d : decode D.2.1 pc = .ok (.astore a, 2)) (hn : a < D.2.2.1) : okStore1 D pc (pc + 2) 1 a := fun _ _ _ _ ⟨_, hv⟩ hl _ _ _ _ _ _ _ _ _ _ _ _ _ _ _ ⟨hx, hb, _⟩ kk => by subst hv; exact lv_astore hx hb d hl hn rfl kk
theorem oks_lstore_n {k : Fin 4} (d : decode D.2.1 pc = .ok (.lstore_n k, 1)) (hi : (k : Nat) = a) (hn : a + 1 < D.2.2.1) : okStore2 D pc (pc + 1) 2 a := fun _ _ _ _ ⟨_, hv⟩ hl _ _ _ _ _ _ _ _ _ _ _ _ _ _ _ ⟨hx, hb, _⟩ kk => by subst hv; exact lv_lstore_n hx hb d hi hl hn rfl kk
theorem oks_lstore (d : decode D.2.1 pc = .ok (.lstore a, 2)) (hn : a + 1 < D.2.2.1) : okStore2 D pc (pc + 2) 2 a := fun _ _ _ _ ⟨_, hv⟩ hl _ _ _ _ _ _ _ _ _ _ _ _ _ _ _ ⟨hx, hb, _⟩ kk => by subst hv; exact lv_lstore hx hb d hl hn rfl kk
theorem oks_dstore_n {k : Fin 4} (d : decode D.2.1 pc = .ok (.dstore_n k, 1)) (hi : (k : Nat) = a) (hn : a + 1 < D.2.2.1) : okStore2 D pc (pc + 1) 3 a := fun _ _ _ _ ⟨_, hv⟩ hl _ _ _ _ _ _ _ _ _ _ _ _ _ _ _ ⟨hx, hb, _⟩ kk => by subst hv; exact lv_dstore_n hx hb d hi hl hn rfl kk
theorem oks_dstore (d : decode D.2.1 pc = .ok (.dstore a, 2)) (hn : a + 1 < D.2.2.1) : okStore2 D pc (pc + 2) 3 a := fun _ _ _ _ ⟨_, hv⟩ hl _ _ _ _ _ _ _ _ _ _ _ _ _ _ _ ⟨hx, hb, _⟩ kk => by subst hv; exact lv_dstore hx hb d hl hn rfl kk
theorem oki_iinc {n : Int} (d : decode D.2.1 pc = .ok (.iinc a n, 3)) (hv : Int32.ofInt n = nI b) (hn : a < D.2.2.1) : okIinc D pc (pc + 3) a b := fun _ _ _ _ hl hm _ _ _ _ _ _ _ _ _ _ _ _ _ _ _ ⟨hx, hb, _⟩ kk => by
  obtain ⟨k, hk⟩ := List.getElem?_of_mem hm
  exact lv_iinc hx hb d hl hk (by rw [hv]) hn rfl kk
theorem oki_dup (d : decode D.2.1 pc = .ok (.dup, 1)) : okDup D pc (pc + 1) := fun _ _ _ hc _ _ _ _ _ _ _ _ _ _ _ _ _ _ _ ⟨hx, hb, _⟩ k => lv_dup hx hb d hc k
theorem oki_pop (d : decode D.2.1 pc = .ok (.pop, 1)) : okPop D pc (pc + 1) := fun _ _ _ hc _ _ _ _ _ _ _ _ _ _ _ _ _ _ _ ⟨hx, hb, _⟩ k => lv_pop hx hb d hc k
theorem oki_dup_x1 (d : decode D.2.1 pc = .ok (.dup_x1, 1)) : okDupX D pc (pc + 1) := fun _ _ _ _ hc hc2 _ _ _ _ _ _ _ _ _ _ _ _ _ _ _ ⟨hx, hb, _⟩ k => lv_dup_x1 hx hb d hc hc2 k
theorem oki_goto {off : Int} (d : decode D.2.1 pc = .ok (.goto off, 3)) (ht : (pc : Int) + off = (nx : Int)) : okGoto D pc nx := fun _ _ _ _ _ _ _ _ _ _ _ _ _ _ _ _ _ ⟨hx, hb, _⟩ k => lv_goto hx hb d ht k
theorem okb_iadd (d : decode D.2.1 pc = .ok (.iadd, 1)) : okBin D pc (pc + 1) 0 := fun _ _ _ _ _ hr _ _ _ _ _ _ _ _ _ _ _ _ _ _ _ ⟨hx, hb, _⟩ k => by cases hr; exact lv_iadd hx hb d k
theorem okb_isub (d : decode D.2.1 pc = .ok (.isub, 1)) : okBin D pc (pc + 1) 1 := fun _ _ _ _ _ hr _ _ _ _ _ _ _ _ _ _ _ _ _ _ _ ⟨hx, hb, _⟩ k => by cases hr; exact lv_isub hx hb d k
theorem okb_imul (d : decode D.2.1 pc = .ok (.imul, 1)) : okBin D pc (pc + 1) 2 := fun _ _ _ _ _ hr _ _ _ _ _ _ _ _ _ _ _ _ _ _ _ ⟨hx, hb, _⟩ k => by cases hr; exact lv_imul hx hb d k
theorem okb_idiv (d : decode D.2.1 pc = .ok (.idiv, 1)) : okBin D pc (pc + 1) 3 := fun _ _ _ _ _ ⟨h0, hr⟩ _ _ _ _ _ _ _ _ _ _ _ _ _ _ _ ⟨hx, hb, _⟩ k => by cases hr; exact lv_idiv hx hb d h0 k
theorem okb_irem (d : decode D.2.1 pc = .ok (.irem, 1)) : okBin D pc (pc + 1) 4 := fun _ _ _ _ _ ⟨h0, hr⟩ _ _ _ _ _ _ _ _ _ _ _ _ _ _ _ ⟨hx, hb, _⟩ k => by cases hr; exact lv_irem hx hb d h0 k
theorem okb_iand (d : decode D.2.1 pc = .ok (.iand, 1)) : okBin D pc (pc + 1) 5 := fun _ _ _ _ _ hr _ _ _ _ _ _ _ _ _ _ _ _ _ _ _ ⟨hx, hb, _⟩ k => by cases hr; exact lv_iand hx hb d k
theorem okb_ishr (d : decode D.2.1 pc = .ok (.ishr, 1)) : okBin D pc (pc + 1) 6 := fun _ _ _ _ _ hr _ _ _ _ _ _ _ _ _ _ _ _ _ _ _ ⟨hx, hb, _⟩ k => by cases hr; exact lv_ishr hx hb d k
theorem oku_i2c (d : decode D.2.1 pc = .ok (.i2c, 1)) : okUn D pc (pc + 1) 7 := fun _ _ _ _ hr _ _ _ _ _ _ _ _ _ _ _ _ _ _ _ ⟨hx, hb, _⟩ k => lv_i2c hx hb d hr.symm k
theorem oku_i2b (d : decode D.2.1 pc = .ok (.i2b, 1)) : okUn D pc (pc + 1) 8 := fun _ _ _ _ hr _ _ _ _ _ _ _ _ _ _ _ _ _ _ _ ⟨hx, hb, _⟩ k => lv_i2b hx hb d hr.symm k
theorem oku_ineg (d : decode D.2.1 pc = .ok (.ineg, 1)) : okUn D pc (pc + 1) 9 := fun _ _ _ _ hr _ _ _ _ _ _ _ _ _ _ _ _ _ _ _ ⟨hx, hb, _⟩ k => by cases hr; exact lv_ineg hx hb d k
theorem okj_eq {off : Int} (d : decode D.2.1 pc = .ok (.ifCond .eq off, 3)) (ht : (pc : Int) + off = (a : Int)) : okIf D pc (pc + 3) a 0 := fun _ _ _ _ _ _ _ _ _ _ _ _ _ _ _ _ _ _ ⟨hx, hb, _⟩ k k2 => lv_if_eq hx hb d ht k k2
theorem okj_ne {off : Int} (d : decode D.2.1 pc = .ok (.ifCond .ne off, 3)) (ht : (pc : Int) + off = (a : Int)) : okIf D pc (pc + 3) a 1 := fun _ _ _ _ _ _ _ _ _ _ _ _ _ _ _ _ _ _ ⟨hx, hb, _⟩ k k2 => lv_if_ne hx hb d ht k (fun q => k2 (fun r => r q))
theorem okj_lt {off : Int} (d : decode D.2.1 pc = .ok (.ifCond .lt off, 3)) (ht : (pc : Int) + off = (a : Int)) : okIf D pc (pc + 3) a 2 := fun _ _ _ _ _ _ _ _ _ _ _ _ _ _ _ _ _ _ ⟨hx, hb, _⟩ k k2 => lv_if_lt hx hb d ht k k2
theorem okj_ge {off : Int} (d : decode D.2.1 pc = .ok (.ifCond .ge off, 3)) (ht : (pc : Int) + off = (a : Int)) : okIf D pc (pc + 3) a 3 := fun _ _ _ _ _ _ _ _ _ _ _ _ _ _ _ _ _ _ ⟨hx, hb, _⟩ k k2 => lv_if_ge hx hb d ht k k2
theorem okj_gt {off : Int} (d : decode D.2.1 pc = .ok (.ifCond .gt off, 3)) (ht : (pc : Int) + off = (a : Int)) : okIf D pc (pc + 3) a 4 := fun _ _ _ _ _ _ _ _ _ _ _ _ _ _ _ _ _ _ ⟨hx, hb, _⟩ k k2 => lv_if_gt hx hb d ht k k2
theorem okj_le {off : Int} (d : decode D.2.1 pc = .ok (.ifCond .le off, 3)) (ht : (pc : Int) + off = (a : Int)) : okIf D pc (pc + 3) a 5 := fun _ _ _ _ _ _ _ _ _ _ _ _ _ _ _ _ _ _ ⟨hx, hb, _⟩ k k2 => lv_if_le hx hb d ht k k2
theorem okk_eq {off : Int} (d : decode D.2.1 pc = .ok (.if_icmp .eq off, 3)) (ht : (pc : Int) + off = (a : Int)) : okIcmp D pc (pc + 3) a 0 := fun _ _ _ _ _ _ _ _ _ _ _ _ _ _ _ _ _ _ _ ⟨hx, hb, _⟩ k k2 => lv_icmp_eq hx hb d ht k k2
theorem okk_ne {off : Int} (d : decode D.2.1 pc = .ok (.if_icmp .ne off, 3)) (ht : (pc : Int) + off = (a : Int)) : okIcmp D pc (pc + 3) a 1 := fun _ _ _ _ _ _ _ _ _ _ _ _ _ _ _ _ _ _ _ ⟨hx, hb, _⟩ k k2 => lv_icmp_ne hx hb d ht k (fun q => k2 (fun r => r q))
theorem okk_lt {off : Int} (d : decode D.2.1 pc = .ok (.if_icmp .lt off, 3)) (ht : (pc : Int) + off = (a : Int)) : okIcmp D pc (pc + 3) a 2 := fun _ _ _ _ _ _ _ _ _ _ _ _ _ _ _ _ _ _ _ ⟨hx, hb, _⟩ k k2 => lv_icmp_lt hx hb d ht k k2
theorem okk_ge {off : Int} (d : decode D.2.1 pc = .ok (.if_icmp .ge off, 3)) (ht : (pc : Int) + off = (a : Int)) : okIcmp D pc (pc + 3) a 3 := fun _ _ _ _ _ _ _ _ _ _ _ _ _ _ _ _ _ _ _ ⟨hx, hb, _⟩ k k2 => lv_icmp_ge hx hb d ht k k2
theorem okk_gt {off : Int} (d : decode D.2.1 pc = .ok (.if_icmp .gt off, 3)) (ht : (pc : Int) + off = (a : Int)) : okIcmp D pc (pc + 3) a 4 := fun _ _ _ _ _ _ _ _ _ _ _ _ _ _ _ _ _ _ _ ⟨hx, hb, _⟩ k k2 => lv_icmp_gt hx hb d ht k k2
theorem okk_le {off : Int} (d : decode D.2.1 pc = .ok (.if_icmp .le off, 3)) (ht : (pc : Int) + off = (a : Int)) : okIcmp D pc (pc + 3) a 5 := fun _ _ _ _ _ _ _ _ _ _ _ _ _ _ _ _ _ _ _ ⟨hx, hb, _⟩ k k2 => lv_icmp_le hx hb d ht k k2
theorem okm_ladd (d : decode D.2.1 pc = .ok (.ladd, 1)) : okLbin D pc (pc + 1) 0 := fun _ _ _ _ _ hr _ _ _ _ _ _ _ _ _ _ _ _ _ _ _ ⟨hx, hb, _⟩ k => by cases hr; exact lv_ladd hx hb d k
theorem okm_lsub (d : decode D.2.1 pc = .ok (.lsub, 1)) : okLbin D pc (pc + 1) 1 := fun _ _ _ _ _ hr _ _ _ _ _ _ _ _ _ _ _ _ _ _ _ ⟨hx, hb, _⟩ k => by cases hr; exact lv_lsub hx hb d k
theorem okm_lmul (d : decode D.2.1 pc = .ok (.lmul, 1)) : okLbin D pc (pc + 1) 2 := fun _ _ _ _ _ hr _ _ _ _ _ _ _ _ _ _ _ _ _ _ _ ⟨hx, hb, _⟩ k => by cases hr; exact lv_lmul hx hb d k
theorem okm_ldiv (d : decode D.2.1 pc = .ok (.ldiv, 1)) : okLbin D pc (pc + 1) 3 := fun _ _ _ _ _ ⟨h0, hr⟩ _ _ _ _ _ _ _ _ _ _ _ _ _ _ _ ⟨hx, hb, _⟩ k => by cases hr; exact lv_ldiv hx hb d h0 k
theorem okm_lcmp (d : decode D.2.1 pc = .ok (.lcmp, 1)) : okLbin D pc (pc + 1) 4 := fun _ _ _ _ _ hr _ _ _ _ _ _ _ _ _ _ _ _ _ _ _ ⟨hx, hb, _⟩ k => by cases hr; exact W.lcmp hx hb d k
theorem okm_i2l (d : decode D.2.1 pc = .ok (.i2l, 1)) : okI2l D pc (pc + 1) := fun _ _ _ _ _ _ _ _ _ _ _ _ _ _ _ _ _ _ ⟨hx, hb, _⟩ k => lv_i2l hx hb d rfl k
theorem okm_i2f (d : decode D.2.1 pc = .ok (.i2f, 1)) : okRw D pc (pc + 1) [.int (nI 0)] [.float (UInt32.ofNat 0)] := fun _ _ _ _ _ _ _ _ _ _ _ _ _ _ _ _ _ ⟨hx, hb, _⟩ k => lv_i2f hx hb d ((show FP.i2f (nI 0) = UInt32.ofNat 0 by decide +kernel) ▸ k)
theorem okm_fdiv (d : decode D.2.1 pc = .ok (.fdiv, 1)) : okRw D pc (pc + 1) [.float (UInt32.ofNat 1114636288), .float (UInt32.ofNat 0)] [.float (UInt32.ofNat 0)] := fun _ _ _ _ _ _ _ _ _ _ _ _ _ _ _ _ _ ⟨hx, hb, _⟩ k => lv_fdiv hx hb d (by unfold vf_n32; decide +kernel) ((show FP.fdiv (UInt32.ofNat 0) (UInt32.ofNat 1114636288) = UInt32.ofNat 0 by decide +kernel) ▸ k)
theorem okm_f2d (d : decode D.2.1 pc = .ok (.f2d, 1)) : okRw D pc (pc + 1) [.float (UInt32.ofNat 0)] [.double (UInt64.ofNat 0)] := fun _ _ _ _ _ _ _ _ _ _ _ _ _ _ _ _ _ ⟨hx, hb, _⟩ k => lv_f2d hx hb d (by unfold vf_n64; decide +kernel) ((show FP.f2d (UInt32.ofNat 0) = UInt64.ofNat 0 by decide +kernel) ▸ k)
theorem okm_dcmpl (d : decode D.2.1 pc = .ok (.dcmp .l, 1)) : okRw D pc (pc + 1) [.double (UInt64.ofNat 0), .double (UInt64.ofNat 0)] [.int (nI 0)] := fun _ _ _ _ _ _ _ _ _ _ _ _ _ _ _ _ _ ⟨hx, hb, _⟩ k => lv_dcmp hx hb d ((show Op.cmpValue (FP.dcmp (UInt64.ofNat 0) (UInt64.ofNat 0)) .l = nI 0 by decide +kernel) ▸ k)
end OKS
end
